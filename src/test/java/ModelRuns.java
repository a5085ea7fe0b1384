import java.lang.reflect.InvocationTargetException;
import java.lang.reflect.Method;
import java.util.ArrayList;
import java.util.Comparator;
import java.util.List;

/** Long mixed runs of calls, each answer compared with the model's. The runs are the same every time. */
public final class ModelRuns {
    private static final int RUNS = 300;
    private static final int GROWN_RUNS = 150;
    private static final int CALLS = 512;
    private static final String[] CHANGES = {"addReader", "addDocument", "train", "train", "learn", "forget",
        "setEscapeMethod", "endYear", "merge", "save", "restore", "undo", "load", "decode"};

    private final Checks checks = new Checks();
    private final List<Method> methods = new ArrayList<>();
    private long seed;

    private TrigramReaders real;
    private TrigramModel model;
    private int calls;
    private int run;

    public static void main(String[] args) {
        new ModelRuns().all();
    }

    private void all() {
        for (Method m : TrigramReaders.class.getDeclaredMethods()) {
            if (java.lang.reflect.Modifier.isPublic(m.getModifiers())) {
                methods.add(m);
            }
        }
        methods.sort(Comparator.comparing(Method::getName));
        for (run = 0; run < RUNS; run++) {
            begin();
            while (calls < CALLS) {
                step();
            }
        }
        for (; run < RUNS + GROWN_RUNS; run++) {
            begin();
            grow();
            while (calls < CALLS) {
                ask();
            }
        }
        // No symbol counts at two orders of one context, so little more than (2 * 9 * 999) to the power 3 can be met.
        checks.hold("denominators of 100,000,000,000 and more are met, not " + greatestDenominator,
            greatestDenominator >= 100_000_000_000L);
        checks.end();
    }

    private void begin() {
        seed = run * 7919L + 17;
        real = new TrigramReaders();
        model = new TrigramModel();
        calls = 0;
    }

    // ---- grown runs: many and great counts first, which mixed runs seldom reach, then questions that meet them

    private static final List<String> ABOUT_SYMBOLS = List.of("symbolAtRank", "rank", "foundOrder", "escapes",
        "numerator", "denominator", "probability", "codeLength", "countOrder0", "countOrder1", "countOrder2");
    private static final List<String> ABOUT_READERS = List.of("contextTotal", "contextSymbols", "order2Contexts",
        "positiveCounts", "timesTrained", "trainedSymbols", "trainingGap", "rankAt", "totalGuesses", "adaptiveGuesses",
        "firstGuessHits", "unseenSymbols", "hardestPosition", "totalBits", "meanGuesses", "hitShare", "bestReader",
        "hardestDocument", "guessesAfterTraining", "trainingsNeeded", "yearsToForget", "agreements", "encode",
        "writeExpected");

    private long greatestDenominator;

    private void grow() {
        StringBuilder text = new StringBuilder();
        int readers = 2 + pick(3);
        for (int i = 0; i < readers; i++) {
            text.append("reader ").append((char) ('a' + i)).append(' ').append("acd".charAt(pick(3))).append(';');
        }
        int documents = 2 + pick(7);
        for (int i = 0; i < documents; i++) {
            text.append("document ").append(word(20 + pick(21), true)).append(';');
        }
        call(named("truncateInput"), 0);
        type(text.toString());
        call(named("load"));
        for (int i = 0; i < 12; i++) {
            call(named("train"), pick(readers), pick(documents));
        }
        for (int i = 20 + pick(60); i > 0; i--) {
            int reader = pick(readers);
            switch (pick(12)) {
                case 0 -> call(named("endYear"));
                case 1 -> call(named("setEscapeMethod"), reader, pick(3));
                case 2 -> call(named("learn"), reader, pick(documents));
                case 3, 4, 5, 6 -> call(named("train"), reader, pick(documents));
                default -> call(named("merge"), reader, (reader + 1 + pick(readers - 1)) % readers);
            }
        }
    }

    private void ask() {
        int reader = pick(model.state.readers.size());
        String text = model.state.documents.get(pick(model.state.documents.size()));
        int at = pick(text.length());
        int previous = at > 0 ? TrigramModel.ALPHABET.indexOf(text.charAt(at - 1)) : -1;
        int beforePrevious = at > 1 && pick(5) > 0 ? TrigramModel.ALPHABET.indexOf(text.charAt(at - 2)) : -1;
        int symbol = pick(3) == 0 ? TrigramModel.ALPHABET.indexOf(text.charAt(at)) : pick(27);
        if (pick(3) == 0) {
            String name = ABOUT_READERS.get(pick(ABOUT_READERS.size()));
            if (name.startsWith("context")) {
                call(named(name), reader, beforePrevious, previous);
            } else {
                call(named(name));
            }
            return;
        }
        String name = ABOUT_SYMBOLS.get(pick(ABOUT_SYMBOLS.size()));
        switch (name) {
            case "countOrder0" -> call(named(name), reader, symbol);
            case "countOrder1" -> call(named(name), reader, previous, symbol);
            case "symbolAtRank" -> call(named(name), reader, beforePrevious, previous, symbol + 1);
            default -> call(named(name), reader, beforePrevious, previous, symbol);
        }
    }

    // ---- mixed runs

    /** A number from 0 to bound - 1, by a fixed rule. */
    private int pick(int bound) {
        seed = seed * 6364136223846793005L + 1442695040888963407L;
        return (int) ((seed >>> 33) % bound);
    }

    private void step() {
        if (pick(3) > 0) {
            call(methods.get(pick(methods.size())));
            return;
        }
        String change = CHANGES[pick(CHANGES.length)];
        // In a few runs merges and trainings alone, so that counts reach 999.
        if (run % 10 == 0 && pick(2) == 0) {
            change = pick(3) == 0 ? "train" : "merge";
        }
        String text = textFor(change);
        if (text != null) {
            if (pick(8) > 0) {
                call(named("truncateInput"), 0);
            }
            type(text);
        }
        call(named(change));
        if (change.equals("load")) {
            call(named("errorCode"));
            call(named("errorPosition"));
        }
    }

    private Method named(String name) {
        return methods.stream().filter(m -> m.getName().equals(name)).findFirst().orElseThrow();
    }

    private void type(String text) {
        int before = model.input.length();
        for (int at = 0; at < text.length(); at += 20) {
            call(named("appendInput"), Checks.four(text, at), Checks.four(text, at + 4), Checks.four(text, at + 8),
                Checks.four(text, at + 12), Checks.four(text, at + 16));
        }
        call(named("truncateInput"), Math.min(before + text.length(), model.input.length()));
    }

    private String textFor(String change) {
        switch (change) {
            case "addReader": return word(pick(6) == 0 ? pick(6) : 1 + pick(4), pick(12) == 0);
            case "addDocument": return word(pick(8) == 0 ? pick(3) * 20 + pick(3) : 1 + pick(40), true);
            case "decode": return ranks();
            case "load": return statements();
            default: return null;
        }
    }

    private String word(int length, boolean underscores) {
        int letters = pick(3) == 0 ? 26 : 2 + pick(4);
        StringBuilder word = new StringBuilder();
        while (word.length() < length) {
            word.append(underscores && pick(6) == 0 ? '_' : (char) ('a' + pick(letters)));
        }
        return word.toString();
    }

    private String ranks() {
        StringBuilder text = new StringBuilder();
        int size = pick(6) == 0 ? 38 + pick(5) : 1 + pick(12);
        for (int i = 0; i < size; i++) {
            text.append(i > 0 ? "," : "").append(pick(5) == 0 ? "0".repeat(pick(4)) : "").append(1 + pick(pick(30) == 0 ? 29 : 27));
        }
        return spoil(text.toString(), 5, ",0 9;");
    }

    private String statements() {
        StringBuilder text = new StringBuilder();
        List<String> names = new ArrayList<>();
        int documents = 0;
        int size = pick(25);
        for (int i = 0; i < size; i++) {
            String next;
            int kind = pick(10);
            if (kind < 3 && (names.size() < 4 || pick(3) == 0)) {
                names.add(pick(15) == 0 && !names.isEmpty() ? names.get(0) : word(pick(20) == 0 ? 5 : 1 + pick(4), pick(20) == 0));
                next = "reader " + names.get(names.size() - 1) + " " + "acd".charAt(pick(3)) + ";";
            } else if (kind < 6 && (documents < 8 || pick(3) == 0)) {
                documents++;
                next = "document " + word(1 + pick(pick(15) == 0 ? 45 : 40), true) + " ;";
            } else if (kind < 9 && !names.isEmpty() && (documents > 0 || pick(4) == 0)) {
                next = "train " + names.get(pick(names.size())) + " " + "0".repeat(pick(3)) + pick(documents + (pick(10) == 0 ? 1 : 0) + (documents == 0 ? 1 : 0)) + ";";
            } else {
                next = "year;";
            }
            if (text.length() + next.length() < 480) {
                text.append(next).append(pick(3) == 0 ? "\n" : pick(5) == 0 ? "  " : "");
            }
        }
        return spoil(text.toString(), 3, "; \na_0A\u00e9\u0000reader");
    }

    /** Now and then cuts a text, or changes a byte of it. */
    private String spoil(String text, int often, String signs) {
        if (text.isEmpty() || pick(often) > 0) {
            return text;
        }
        int at = pick(text.length());
        char sign = signs.charAt(pick(signs.length()));
        switch (pick(4)) {
            case 0: return text.substring(0, at);
            case 1: return text.substring(0, at) + text.substring(at + 1);
            case 2: return text.substring(0, at) + sign + text.substring(at);
            default: return text.substring(0, at) + sign + text.substring(at + 1);
        }
    }

    private void call(Method method) {
        int[] args = new int[method.getParameterCount()];
        for (int i = 0; i < args.length; i++) {
            args[i] = argument(method.getName(), i, args.length);
        }
        call(method, args);
    }

    private static final List<String> BY_CONTEXT = List.of("contextTotal", "contextSymbols", "symbolAtRank", "rank",
        "foundOrder", "escapes", "numerator", "denominator", "probability", "codeLength");

    private int argument(String name, int index, int size) {
        if (pick(60) == 0) {
            return new int[] {-2, -1, Integer.MIN_VALUE, Integer.MAX_VALUE, 100}[pick(5)];
        }
        if (name.equals("appendInput")) {
            return 0x61626364 + pick(5);
        }
        if (List.of("truncateInput", "outputByte").contains(name)) {
            return pick(25);
        }
        if (List.of("save", "restore").contains(name)) {
            return pick(2);
        }
        if (name.equals("addReader") || name.equals("setEscapeMethod") && index == 1) {
            return pick(3);
        }
        if (name.startsWith("countOrder") && index > 0 || BY_CONTEXT.contains(name) && index > 0) {
            return symbol(name, index);
        }
        if (List.of("documentLength", "documentSymbol", "documentYear", "bestReader").contains(name)) {
            return index == 0 ? document() : pick(41);
        }
        if (index == 0 || index == 1 && List.of("agreements", "merge").contains(name)) {
            return pick(model.state.readers.size() + (pick(20) == 0 ? 1 : 0) + (model.state.readers.isEmpty() ? 1 : 0));
        }
        switch (name) {
            case "readerNameByte": return pick(5);
            case "writeExpected": return pick(42);
            case "trainingsNeeded": return index == 1 ? document() : pick(5) == 0 ? 1078 + pick(5) : pick(120);
            case "rankAt": return index == 1 ? document() : pick(41);
            default: return document();
        }
    }

    private int document() {
        int documents = model.state.documents.size();
        return pick(documents + (pick(20) == 0 ? 1 : 0) + (documents == 0 ? 1 : 0));
    }

    /** Mostly symbols that stand in the documents side by side, so that contexts are met. */
    private int symbol(String name, int index) {
        if (BY_CONTEXT.contains(name) && index < 3 && pick(8) == 0) {
            return -1;
        }
        return name.equals("symbolAtRank") && index == 3 ? pick(29) : pick(4) == 0 ? pick(28) : pick(3);
    }

    private void call(Method method, int... args) {
        if (calls >= CALLS) {
            return;
        }
        calls++;
        Object want;
        try {
            want = model.call(method.getName(), args);
        } catch (RuntimeException e) {
            want = e.getClass().getName();
        }
        Object got;
        try {
            Object[] boxed = new Object[args.length];
            for (int i = 0; i < args.length; i++) {
                boxed[i] = args[i];
            }
            got = method.invoke(real, boxed);
        } catch (InvocationTargetException e) {
            got = e.getCause().getClass().getName();
        } catch (IllegalAccessException e) {
            got = e.getClass().getName();
        }
        if (method.getName().equals("denominator") && want instanceof Long) {
            greatestDenominator = Math.max(greatestDenominator, (Long) want);
        }
        if (want.equals(got)) {
            checks.hold(method.getName(), true);
        } else {
            checks.hold("run " + run + ", call " + calls + ": " + method.getName() + java.util.Arrays.toString(args)
                + " answered " + got + ", due is " + want + "; this", false);
        }
    }
}
