public final class PromiseTests { public static void main(String[] a) {} }
