import java.lang.reflect.Constructor;
import java.lang.reflect.Field;
import java.lang.reflect.Method;
import java.lang.reflect.Modifier;
import java.nio.charset.StandardCharsets;
import java.nio.file.Files;
import java.nio.file.Path;
import java.util.Arrays;
import java.util.TreeSet;
import java.util.regex.Matcher;
import java.util.regex.Pattern;
import java.util.stream.Collectors;

/** The class has the face that the document lists, and the source keeps to the rules that a look at it can tell. */
public final class FaceTest {
    public static void main(String[] args) throws Exception {
        Checks checks = new Checks();
        String doc = Files.readString(Path.of(args[0], "DOC.md"), StandardCharsets.UTF_8);
        String source = Files.readString(Path.of(args[1]), StandardCharsets.ISO_8859_1);
        methods(checks, doc);
        members(checks);
        words(checks, source);
        checks.end();
    }

    private static void methods(Checks checks, String doc) {
        TreeSet<String> due = new TreeSet<>();
        Matcher line = Pattern.compile("(?m)^    public (int|long|double|float) (\\w+)\\(([^)]*)\\)(?: throws ([^;]*))?;").matcher(doc);
        while (line.find()) {
            int parameters = line.group(3).isEmpty() ? 0 : line.group(3).split(",").length;
            String thrown = line.group(4) == null ? "" : line.group(4);
            due.add(line.group(1) + " " + line.group(2) + " " + parameters + " " + thrown);
        }
        TreeSet<String> found = new TreeSet<>();
        for (Method m : TrigramReaders.class.getDeclaredMethods()) {
            if (Modifier.isPublic(m.getModifiers())) {
                String thrown = Arrays.stream(m.getExceptionTypes()).map(Class::getSimpleName).collect(Collectors.joining(", "));
                found.add(m.getReturnType().getName() + " " + m.getName() + " " + m.getParameterCount() + " " + thrown);
                checks.hold(m + " takes ints", Arrays.stream(m.getParameterTypes()).allMatch(t -> t == int.class));
                checks.hold(m + " is no static method", !Modifier.isStatic(m.getModifiers()));
            } else {
                checks.hold(m + " is private", Modifier.isPrivate(m.getModifiers()));
            }
        }
        checks.hold("62 methods in the document, not " + due.size(), due.size() == 62);
        checks.hold("the face " + found + " as " + due, found.equals(due));
    }

    private static void members(Checks checks) {
        Class<?> c = TrigramReaders.class;
        checks.hold("public and final", Modifier.isPublic(c.getModifiers()) && Modifier.isFinal(c.getModifiers()));
        Constructor<?>[] made = c.getDeclaredConstructors();
        checks.hold("one constructor", made.length == 1 && made[0].getParameterCount() == 0 && Modifier.isPublic(made[0].getModifiers()));
        TreeSet<String> constants = new TreeSet<>();
        for (Field f : c.getDeclaredFields()) {
            if (!Modifier.isPrivate(f.getModifiers())) {
                constants.add(f.getName());
            }
        }
        checks.hold("constants " + constants, constants.equals(new TreeSet<>(Arrays.asList("NONE", "METHOD_A", "METHOD_C", "METHOD_D"))));
        checks.hold("at most twelve classes", c.getDeclaredClasses().length < 12);
        TreeSet<String> face = new TreeSet<>();
        for (Method m : c.getDeclaredMethods()) {
            if (Modifier.isPublic(m.getModifiers())) {
                face.add(m.getName());
            }
        }
        for (Class<?> inner : c.getDeclaredClasses()) {
            checks.hold(inner + " is not public", !Modifier.isPublic(inner.getModifiers()) && Modifier.isStatic(inner.getModifiers()));
            for (Method m : inner.getDeclaredMethods()) {
                checks.hold(m + " has a name of its own", !face.contains(m.getName()));
                checks.hold(m + " takes at most seven", m.getParameterCount() <= 7);
            }
        }
    }

    private static void words(Checks checks, String source) {
        checks.hold("signs 1 to 127", source.chars().allMatch(s -> s == '\n' || s >= 32 && s < 127));
        String code = source.replaceAll("(?m)//.*$", "").replaceAll("(?s)/\\*.*?\\*/", "").replaceAll("\"[^\"]*\"", "\"\"");
        for (String word : new String[] {"->", "::", "\\btry\\b", "\\bcatch\\b", "\\bfinally\\b", "\\bsynchronized\\b",
            "\\bassert\\b", "\\bpackage\\b", "\\bvar\\b", "Exact\\b", "\\bSystem\\.(?!arraycopy)", "\\bprotected\\b",
            "\\bhashCode\\b", "\\btoString\\b", "\\bequals\\b", "\\bvolatile\\b", "\\bnative\\b"}) {
            checks.hold("no " + word, !Pattern.compile(word).matcher(code).find());
        }
        checks.hold("one import", code.split("\\bimport\\b", -1).length == 2);
    }
}
