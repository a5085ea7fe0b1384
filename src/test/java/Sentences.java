import java.nio.charset.StandardCharsets;
import java.nio.file.Files;
import java.nio.file.Path;
import java.util.ArrayList;
import java.util.HashSet;
import java.util.LinkedHashMap;
import java.util.List;
import java.util.Map;
import java.util.Set;
import java.util.regex.Matcher;
import java.util.regex.Pattern;

/**
 * The document cut into its sentences and the parts of them that a semicolon ends. Each test stands for one of them;
 * a sentence that names a boundary and has no test is told as a fault.
 */
final class Sentences {
    /** Words that tell that a sentence names a boundary case. */
    private static final Pattern BOUNDARY = Pattern.compile(
        "Throws|at most|at least|NONE|\\b[Ii]f\\b|range|\\d+ to \\d+|to the current length|0 or 1|empty|greate|small|never"
        + "|\\bfirst\\b|\\blast\\b|latest|equal|exist|always|-1|maximal|any length|leading|\\b[Nn]o\\b|discard|from 0"
        + "|\\bonly\\b|[Ww]hole|999|lowest|too early|rounded|neither|precede|nothing|already|keeps|does not change"
        + "|more than|when there are|other byte|not yet|not part|27|new reader|added");

    interface Make {
        TrigramReaders object();
    }

    interface Use {
        double on(TrigramReaders x);
    }

    final Checks checks = new Checks();
    private final Map<String, List<String>> parts = new LinkedHashMap<>();
    private final Set<String> tested = new HashSet<>();

    Sentences(Path document) throws java.io.IOException {
        String text = Files.readString(document, StandardCharsets.UTF_8).replaceAll("(?s)```java.*?```", "");
        String section = "";
        for (String line : text.split("\n")) {
            String part = line.strip().replaceFirst("^`[a-zA-Z]+ ?\\w*\\(.*?`: ?", "");
            Matcher heading = Pattern.compile("## (Promise \\d+)?(.*)|(\\d)\\. .*").matcher(part);
            if (heading.matches()) {
                section = heading.group(3) != null ? "Section " + heading.group(3)
                    : heading.group(1) != null ? heading.group(1) : heading.group(2);
            } else if (!part.isEmpty() && !part.startsWith("#") && !part.startsWith("```")) {
                parts.computeIfAbsent(section, s -> new ArrayList<>()).addAll(List.of(part.split("(?<=[.;])\\s+")));
            }
        }
    }

    /** Runs the test of one sentence. */
    void test(String section, String sentence, Runnable test) {
        checks.about(section + ", \"" + sentence + "\" ");
        checks.hold("stands in the document", parts.getOrDefault(section, List.of()).contains(sentence));
        checks.hold("has one test", tested.add(section + sentence));
        int before = checks.made();
        try {
            test.run();
        } catch (RuntimeException e) {
            checks.tell("stopped with " + e + " at " + e.getStackTrace()[0]);
        }
        checks.hold("has a test that looks at something", checks.made() > before);
    }

    void end() {
        checks.about("");
        for (Map.Entry<String, List<String>> section : parts.entrySet()) {
            for (String part : section.getValue()) {
                boolean needed = !section.getKey().equals("Not promised") && BOUNDARY.matcher(part).find();
                checks.hold(section.getKey() + ", \"" + part + "\" has a test", !needed || tested.contains(section.getKey() + part));
            }
        }
        checks.end();
    }

    // ---- what the tests share

    static TrigramReaders loaded(String text) {
        TrigramReaders x = new TrigramReaders();
        Checks.type(x, text);
        x.load();
        return x;
    }

    static TrigramReaders typed(TrigramReaders x, String text) {
        Checks.type(x, text);
        return x;
    }

    /** The call throws, and an object that it was made on can't be told from one where it was not. */
    void refused(String what, Class<? extends RuntimeException> want, Make make, Use use) {
        TrigramReaders x = make.object();
        checks.refused(what, want, () -> use.on(x));
        same(what, x, make.object());
    }

    void same(String what, TrigramReaders x, TrigramReaders twin) {
        checks.due(what + ": the two objects are alike", 1, () -> Snapshot.whole(x).equals(Snapshot.whole(twin)) ? 1 : 0);
    }

    void due(String what, double want, Checks.Call call) {
        checks.due(what, want, call);
    }

    /** The call throws nothing, whatever it answers. */
    void answered(String what, Make make, Use use) {
        checks.due(what + " answers", 0, () -> use.on(make.object()) * 0);
    }

    /** The error that the text has. */
    void error(String text, int code, int position) {
        TrigramReaders x = typed(new TrigramReaders(), text);
        checks.refused("load of '" + text + "'", IllegalArgumentException.class, () -> x.load());
        checks.due("errorCode of '" + text + "'", code, () -> x.errorCode());
        checks.due("errorPosition of '" + text + "'", position, () -> x.errorPosition());
    }

    /** The text has no error. */
    TrigramReaders good(String text) {
        TrigramReaders x = typed(new TrigramReaders(), text);
        checks.due("load of '" + text + "' answers the readers", 0, () -> x.load() - x.readerCount());
        checks.due("errorCode of '" + text + "'", 0, () -> x.errorCode());
        checks.due("errorPosition of '" + text + "'", -1, () -> x.errorPosition());
        return x;
    }

    /** The ranking begins with these symbols. */
    void ranking(TrigramReaders x, int reader, int beforePrevious, int previous, String due) {
        for (int i = 0; i < due.length(); i++) {
            int rank = i + 1;
            checks.due("symbol at rank " + rank + " of " + due, symbol(due.charAt(i)),
                () -> x.symbolAtRank(reader, beforePrevious, previous, rank));
            checks.due("rank of " + due.charAt(i) + " in " + due, rank,
                () -> x.rank(reader, beforePrevious, previous, symbol(due.charAt(rank - 1))));
        }
    }

    void chance(TrigramReaders x, int reader, int beforePrevious, int previous, int symbol, long top, long bottom) {
        String what = " of " + symbol + " after " + beforePrevious + ", " + previous + " for reader " + reader;
        checks.due("numerator" + what, top, () -> x.numerator(reader, beforePrevious, previous, symbol));
        checks.due("denominator" + what, bottom, () -> x.denominator(reader, beforePrevious, previous, symbol));
    }

    void written(TrigramReaders x, String due) {
        checks.due("the output is " + due, 1, () -> Checks.output(x, due.length()).equals(due) ? 1 : 0);
        checks.refused("a byte after " + due, java.util.NoSuchElementException.class, () -> x.outputByte(due.length()));
    }

    static int symbol(char sign) {
        return sign == '_' ? 26 : sign - 'a';
    }

    static void times(int n, Runnable call) {
        for (int i = 0; i < n; i++) {
            call.run();
        }
    }
}
