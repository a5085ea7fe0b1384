import java.util.NoSuchElementException;

/** A test for each sentence of the promises 1 to 63 that names a boundary case. */
final class CallBoundaries {
    private static final int NONE = TrigramReaders.NONE;
    private static final int A = TrigramReaders.METHOD_A, C = TrigramReaders.METHOD_C, D = TrigramReaders.METHOD_D;
    private static final Class<IndexOutOfBoundsException> MISSING = IndexOutOfBoundsException.class;
    private static final Class<IllegalArgumentException> ILLEGAL = IllegalArgumentException.class;
    private static final Class<IllegalStateException> STATE = IllegalStateException.class;
    private static final Class<NoSuchElementException> NOWHERE = NoSuchElementException.class;
    private static final int N = 13, Z = 25, UNDERSCORE = 26;
    private static final int[] EXTREMES = {Integer.MIN_VALUE, Integer.MIN_VALUE + 1, Integer.MAX_VALUE - 1, Integer.MAX_VALUE};

    private static final String NO_READER = "Throws `IndexOutOfBoundsException` if the reader does not exist";
    private static final String NO_DOCUMENT = "Throws `IndexOutOfBoundsException` if the document does not exist";
    private static final String NEITHER = "Throws `IndexOutOfBoundsException` if the reader or the document does not exist";
    private static final String ONE_OF_READERS = "Throws `IndexOutOfBoundsException` if one of the readers does not exist";
    private static final String SAME_READER = "Throws `IllegalArgumentException` if both are the same reader";
    private static final String NO_SYMBOL = "Throws `IllegalArgumentException` if a symbol is not in 0 to 26";
    private static final String NO_CONTEXT = "Throws `IllegalArgumentException` if the context is not valid";
    private static final String NO_CONTEXT_OR_SYMBOL = "Throws `IllegalArgumentException` if the context or the symbol is not valid";
    private static final String BEFORE_PREVIOUS = "- `beforePrevious`: the symbol before the previous one, or NONE";
    private static final String PREVIOUS = "- `previous`: the previous symbol, or NONE";

    interface One {
        double of(TrigramReaders x, int a);
    }

    interface Two {
        double of(TrigramReaders x, int a, int b);
    }

    interface Three {
        double of(TrigramReaders x, int a, int b, int c);
    }

    private final Sentences s;

    CallBoundaries(Sentences sentences) {
        s = sentences;
    }

    void all() {
        buffer();
        load();
        stored();
        counts();
        countQuestions();
        byContext();
        atRank();
        readDocuments();
        reading();
        bests();
        limits();
        years();
        pairs();
        adding();
        changing();
        merging();
        outputs();
        decoding();
        slots();
        undos();
    }

    private static TrigramReaders fresh() {
        return new TrigramReaders();
    }

    private static TrigramReaders loaded(String text) {
        return Sentences.loaded(text);
    }

    private static TrigramReaders typed(TrigramReaders x, String text) {
        return Sentences.typed(x, text);
    }

    private static TrigramReaders full() {
        return loaded(TermBoundaries.FULL);
    }

    // ---- what several promises say

    /** The number is refused in any state where nothing has it, and answered in the others. Each object has the input 1. */
    private void numbered(One use, int inFresh, int inFull) {
        Sentences.Make first = () -> typed(fresh(), "1");
        Sentences.Make most = () -> typed(full(), "1");
        Sentences.Make none = () -> typed(loaded(""), "1");
        for (int wrong : EXTREMES) {
            s.refused("number " + wrong, MISSING, first, x -> use.of(x, wrong));
        }
        s.refused("number -1", MISSING, first, x -> use.of(x, -1));
        s.answered("number 0", first, x -> use.of(x, 0));
        s.answered("the last number", first, x -> use.of(x, inFresh - 1));
        s.refused("the number behind the last", MISSING, first, x -> use.of(x, inFresh));
        s.answered("the last of all numbers", most, x -> use.of(x, inFull - 1));
        s.refused("the number behind all", MISSING, most, x -> use.of(x, inFull));
        s.refused("0 where there is nothing", MISSING, none, x -> use.of(x, 0));
    }

    private void reader(int promise, One use) {
        s.test("Promise " + promise, NO_READER, () -> numbered(use, 2, 4));
    }

    private void document(int promise, One use) {
        s.test("Promise " + promise, NO_DOCUMENT, () -> numbered(use, 2, 8));
    }

    private void readerAndDocument(int promise, Two use) {
        s.test("Promise " + promise, NEITHER, () -> {
            numbered((x, r) -> use.of(x, r, 0), 2, 4);
            numbered((x, d) -> use.of(x, 0, d), 2, 8);
            s.refused("neither", MISSING, TrigramReaders::new, x -> use.of(x, 2, 2));
            s.refused("a document of no reader", MISSING, () -> loaded("document a;"), x -> use.of(x, 0, 0));
            s.refused("a reader without documents", MISSING, () -> loaded("reader a a;"), x -> use.of(x, 0, 0));
        });
    }

    private void contextOnly(int promise, Three use) {
        nones(promise, use);
        s.test("Promise " + promise, NO_CONTEXT, () -> wrongContexts(use));
    }

    private void nones(int promise, Three use) {
        s.test("Promise " + promise, BEFORE_PREVIOUS, () -> {
            s.answered("NONE before a", TrigramReaders::new, x -> use.of(x, 0, NONE, 0));
            s.answered("NONE before _", TrigramReaders::new, x -> use.of(x, 0, NONE, 26));
            s.answered("a before a", TrigramReaders::new, x -> use.of(x, 0, 0, 0));
            s.answered("_ before a", TrigramReaders::new, x -> use.of(x, 0, 26, 0));
            s.refused("-2 before a", ILLEGAL, TrigramReaders::new, x -> use.of(x, 0, -2, 0));
            s.refused("27 before a", ILLEGAL, TrigramReaders::new, x -> use.of(x, 0, 27, 0));
        });
        s.test("Promise " + promise, PREVIOUS, () -> {
            s.answered("NONE and NONE", TrigramReaders::new, x -> use.of(x, 0, NONE, NONE));
            s.answered("_ before _", TrigramReaders::new, x -> use.of(x, 0, 26, 26));
            s.refused("a before -2", ILLEGAL, TrigramReaders::new, x -> use.of(x, 0, 0, -2));
            s.refused("a before 27", ILLEGAL, TrigramReaders::new, x -> use.of(x, 0, 0, 27));
        });
    }

    private void wrongContexts(Three use) {
        for (int[] c : new int[][] {{0, NONE}, {26, NONE}, {-2, NONE}, {27, NONE}, {NONE, -2}, {NONE, 27}, {-2, -2}, {27, 27}, {27, 26}, {26, 27}}) {
            s.refused("context " + c[0] + ", " + c[1], ILLEGAL, TrigramReaders::new, x -> use.of(x, 0, c[0], c[1]));
        }
        for (int wrong : EXTREMES) {
            s.refused("context " + wrong + ", 0", ILLEGAL, TrigramReaders::new, x -> use.of(x, 0, wrong, 0));
            s.refused("context 0, " + wrong, ILLEGAL, TrigramReaders::new, x -> use.of(x, 0, 0, wrong));
            s.refused("context NONE, " + wrong, ILLEGAL, TrigramReaders::new, x -> use.of(x, 0, NONE, wrong));
            s.refused("context " + wrong + ", NONE", ILLEGAL, TrigramReaders::new, x -> use.of(x, 0, wrong, NONE));
        }
    }

    private void wrongSymbols(One use) {
        s.answered("symbol 0", TrigramReaders::new, x -> use.of(x, 0));
        s.answered("symbol 26", TrigramReaders::new, x -> use.of(x, 26));
        for (int wrong : new int[] {-2, -1, 27, 28}) {
            s.refused("symbol " + wrong, ILLEGAL, TrigramReaders::new, x -> use.of(x, wrong));
        }
        for (int wrong : EXTREMES) {
            s.refused("symbol " + wrong, ILLEGAL, TrigramReaders::new, x -> use.of(x, wrong));
        }
    }

    private interface Four {
        double of(TrigramReaders x, int a, int b, int c, int d);
    }

    private void contextAndSymbol(int promise, Four use) {
        reader(promise, (x, r) -> use.of(x, r, NONE, NONE, 0));
        nones(promise, (x, r, b, p) -> use.of(x, r, b, p, 0));
        s.test("Promise " + promise, NO_CONTEXT_OR_SYMBOL, () -> {
            wrongContexts((x, r, b, p) -> use.of(x, r, b, p, 0));
            wrongSymbols((x, symbol) -> use.of(x, 0, NONE, NONE, symbol));
            wrongSymbols((x, symbol) -> use.of(x, 0, 0, N, symbol));
            s.refused("both", ILLEGAL, TrigramReaders::new, x -> use.of(x, 0, 27, 27, 27));
        });
    }

    /** Positions of something that has as many of them. */
    private void positions(int length, Sentences.Make make, One use) {
        s.answered("position 0", make, x -> use.of(x, 0));
        s.answered("the last position", make, x -> use.of(x, length - 1));
        s.refused("the position behind the last", NOWHERE, make, x -> use.of(x, length));
        s.refused("position -1", NOWHERE, make, x -> use.of(x, -1));
        for (int wrong : EXTREMES) {
            s.refused("position " + wrong, NOWHERE, make, x -> use.of(x, wrong));
        }
    }

    // ---- promises 1 to 3

    private void buffer() {
        s.test("Promise 1", "Creates the set of readers with the state that section 7 describes, an empty input buffer, no error, an empty output and empty slots.", () -> {
            s.due("the input buffer", 0, () -> Snapshot.inputLength(fresh()));
            s.due("the error", 0, () -> fresh().errorCode());
            s.due("its position", NONE, () -> fresh().errorPosition());
            s.checks.refused("the output", NOWHERE, () -> fresh().outputByte(0));
            s.checks.refused("slot 0", STATE, () -> fresh().restore(0));
            s.checks.refused("slot 1", STATE, () -> fresh().restore(1));
            s.due("readers", 2, () -> fresh().readerCount());
            s.due("documents", 2, () -> fresh().documentCount());
            s.due("year", 1, () -> fresh().year());
            s.due("no call is remembered", 0, () -> fresh().undoDepth());
            TrigramReaders x = fresh();
            x.encode(0, 0);
            x.forget(0);
            x.save(0);
            s.same("one object does not change another", fresh(), fresh());
            s.due("one object does not change another", 15, () -> fresh().positiveCounts(0));
        });
        s.test("Promise 2", "Appends 20 bytes to the input buffer: the four bytes of each argument, the most significant byte first.", () -> {
            TrigramReaders x = fresh();
            s.due("20 bytes", 20, () -> x.appendInput(0x61626364, 0x65666768, 0x696a6b6c, 0x6d6e6f70, 0x71727374));
            x.addDocument();
            for (int i = 0; i < 20; i++) {
                int at = i;
                s.due("byte " + i, i, () -> x.documentSymbol(2, at));
            }
            // The bytes 0, 127, 128 and 255 stand behind what was there.
            TrigramReaders y = typed(fresh(), "year;");
            y.appendInput(0x7f80ff00, -1, Integer.MIN_VALUE, Integer.MAX_VALUE, 0);
            s.checks.refused("load", ILLEGAL, () -> y.load());
            s.due("the first of them", 5, () -> y.errorPosition());
            // Bytes of letters with the highest bit are no letters.
            s.refused("a byte of 225", ILLEGAL, () -> typed(fresh(), "a\u00e1"), z -> z.addDocument());
        });
        arguments();
        s.test("Promise 2", "Throws `IllegalStateException` if the new length would be greater than 500", () -> {
            s.due("to 500", 500, () -> typed(fresh(), " ".repeat(480)).appendInput(0, 0, 0, 0, 0));
            for (int length : new int[] {481, 490, 499, 500}) {
                s.refused("from " + length, STATE, () -> typed(fresh(), " ".repeat(length)), x -> x.appendInput(0, 0, 0, 0, 0));
            }
        });
        s.test("Promise 3", "- `length`: the new length, 0 to the current length", () -> {
            for (int length : new int[] {0, 1, 19, 20}) {
                s.due("to " + length, length, () -> typed(fresh(), "abcdefghijklmnopqrst").truncateInput(length));
            }
            TrigramReaders x = typed(fresh(), "abcdefghijklmnopqrst");
            x.truncateInput(3);
            x.truncateInput(3);
            typed(x, "z").addDocument();
            s.due("what was cut does not come back", 4, () -> x.documentLength(2));
            s.due("the byte before the cut", 2, () -> x.documentSymbol(2, 2));
            s.due("the byte behind the cut", Z, () -> x.documentSymbol(2, 3));
        });
        s.test("Promise 3", "Throws `IllegalArgumentException` if the length is out of range", () -> {
            for (int length : new int[] {0, 1, 20, 499, 500}) {
                Sentences.Make make = () -> typed(fresh(), " ".repeat(length));
                s.answered("all of " + length, make, x -> x.truncateInput(length));
                s.refused("one more than " + length, ILLEGAL, make, x -> x.truncateInput(length + 1));
                s.refused("-1 of " + length, ILLEGAL, make, x -> x.truncateInput(-1));
                for (int wrong : EXTREMES) {
                    s.refused(wrong + " of " + length, ILLEGAL, make, x -> x.truncateInput(wrong));
                }
            }
        });
    }

    private void arguments() {
        String[] lines = {"- `a`: bytes 1 to 4", "- `b`: bytes 5 to 8", "- `c`: bytes 9 to 12", "- `d`: bytes 13 to 16", "- `e`: bytes 17 to 20"};
        for (int i = 0; i < 5; i++) {
            int argument = i;
            s.test("Promise 2", lines[i], () -> {
                int[] words = {0x7a7a7a7a, 0x7a7a7a7a, 0x7a7a7a7a, 0x7a7a7a7a, 0x7a7a7a7a};
                words[argument] = 0x61626364;
                TrigramReaders x = fresh();
                x.appendInput(words[0], words[1], words[2], words[3], words[4]);
                x.addDocument();
                for (int at = 0; at < 20; at++) {
                    int position = at;
                    s.due("byte " + at, at / 4 == argument ? at % 4 : Z, () -> x.documentSymbol(2, position));
                }
            });
        }
    }

    // ---- promises 4 to 6

    /** An object whose latest load had the error 2 at position 7. */
    private static TrigramReaders failed() {
        TrigramReaders x = typed(fresh(), "reader abcde a;");
        try {
            x.load();
        } catch (IllegalArgumentException error) {
            return x;
        }
        return null;
    }

    private void load() {
        s.test("Promise 4", "The input buffer is empty afterwards, also if the text has an error.", () -> {
            TrigramReaders x = typed(fresh(), "year;");
            x.load();
            s.due("after a text", 0, () -> Snapshot.inputLength(x));
            s.due("after an error", 0, () -> Snapshot.inputLength(failed()));
            TrigramReaders y = typed(fresh(), "?".repeat(500));
            s.checks.refused("500 bytes", ILLEGAL, () -> y.load());
            s.due("after 500 bytes", 0, () -> Snapshot.inputLength(y));
        });
        s.test("Promise 4", "If the text has an error, the state does not change, and the error code and the error position are stored.", () -> {
            TrigramReaders x = typed(fresh(), "reader q a;document b;train q 0;year;?");
            s.checks.refused("load", ILLEGAL, () -> x.load());
            s.due("code", 1, () -> x.errorCode());
            s.due("position", 37, () -> x.errorPosition());
            s.due("no call is remembered", 0, () -> x.undoDepth());
            s.due("the state", 1, () -> Snapshot.state(x).equals(Snapshot.state(fresh())) ? 1 : 0);
        });
        s.test("Promise 4", "Throws `IllegalArgumentException` if the text has an error", () -> {
            for (String text : new String[] {"?", "year", "reader a_ a;", "reader a a;reader a a;", "train a 0;", TermBoundaries.FOUR_READERS + "reader"}) {
                TrigramReaders x = typed(fresh(), text);
                s.checks.refused(text, ILLEGAL, () -> x.load());
            }
            s.due("no error, no reader", 0, () -> fresh().load());
            s.due("no error, 4 readers", 4, () -> typed(fresh(), TermBoundaries.FULL).load());
        });
        s.test("Promise 5", "Returns the error code of the latest call of load;", () -> {
            TrigramReaders x = failed();
            s.due("the first", 2, () -> x.errorCode());
            typed(x, "train a 0;");
            s.checks.refused("load", ILLEGAL, () -> x.load());
            s.due("the second", 4, () -> x.errorCode());
            typed(x, "?");
            s.checks.refused("another call", ILLEGAL, () -> x.addReader(A));
            s.due("another call is no load", 4, () -> x.errorCode());
        });
        s.test("Promise 5", "0 if it had no error or if load was not called.", () -> {
            s.due("not called", 0, () -> fresh().errorCode());
            TrigramReaders x = failed();
            x.load();
            s.due("no error now", 0, () -> x.errorCode());
        });
        s.test("Promise 6", "Returns the error position of the latest call of load;", () -> {
            TrigramReaders x = failed();
            s.due("the first", 7, () -> x.errorPosition());
            typed(x, "?");
            s.checks.refused("load", ILLEGAL, () -> x.load());
            s.due("the second", 0, () -> x.errorPosition());
        });
        s.test("Promise 6", "NONE if it had no error or if load was not called.", () -> {
            s.due("not called", NONE, () -> fresh().errorPosition());
            TrigramReaders x = failed();
            x.load();
            s.due("no error now", NONE, () -> x.errorPosition());
        });
    }

    // ---- promises 9 to 14

    private void stored() {
        reader(9, (x, r) -> x.readerNameByte(r, 0));
        s.test("Promise 9", "- `position`: a position in its name, from 0", () -> {
            TrigramReaders x = full();
            s.due("the first of 4", 'd', () -> x.readerNameByte(3, 0));
            s.due("the last of 4", 'd', () -> x.readerNameByte(3, 3));
            s.due("the only one", 'b', () -> x.readerNameByte(1, 0));
            s.due("the first of ann", 'a', () -> fresh().readerNameByte(0, 0));
            s.due("the last of bob", 'b', () -> fresh().readerNameByte(1, 2));
        });
        s.test("Promise 9", "Throws `NoSuchElementException` if the name has no such position", () -> {
            positions(1, CallBoundaries::full, (x, at) -> x.readerNameByte(0, at));
            positions(2, CallBoundaries::full, (x, at) -> x.readerNameByte(2, at));
            positions(4, CallBoundaries::full, (x, at) -> x.readerNameByte(3, at));
            // A place that a longer name had before.
            positions(1, () -> {
                TrigramReaders x = typed(fresh(), "abcd");
                x.addReader(A);
                x.undo();
                typed(x, "q").addReader(A);
                return x;
            }, (x, at) -> x.readerNameByte(2, at));
        });
        reader(10, (x, r) -> x.escapeMethod(r));
        document(12, (x, d) -> x.documentLength(d));
        document(13, (x, d) -> x.documentSymbol(d, 0));
        s.test("Promise 13", "- `position`: a position in it, from 0", () -> {
            TrigramReaders x = full();
            s.due("the first of 40", 0, () -> x.documentSymbol(7, 0));
            s.due("the last of 40", 12, () -> x.documentSymbol(7, 39));
            s.due("the only one", UNDERSCORE, () -> x.documentSymbol(3, 0));
        });
        s.test("Promise 13", "Throws `NoSuchElementException` if the document has no such position", () -> {
            positions(1, CallBoundaries::full, (x, at) -> x.documentSymbol(1, at));
            positions(40, CallBoundaries::full, (x, at) -> x.documentSymbol(7, at));
            positions(1, () -> {
                TrigramReaders x = typed(fresh(), "abcd");
                x.addDocument();
                x.undo();
                typed(x, "q").addDocument();
                return x;
            }, (x, at) -> x.documentSymbol(2, at));
        });
        document(14, (x, d) -> x.documentYear(d));
        s.test("Promise 14", "Returns the year in which it was added.", () -> {
            TrigramReaders x = typed(fresh(), "q");
            x.addDocument();
            x.endYear();
            typed(x, "q").addDocument();
            s.due("before the first year ended", 0, () -> x.documentYear(0));
            s.due("in the year before", 1, () -> x.documentYear(2));
            s.due("in this year", 2, () -> x.documentYear(3));
        });
    }

    // ---- promises 15 to 24

    private void counts() {
        reader(15, (x, r) -> x.countOrder0(r, 0));
        s.test("Promise 15", "Returns its order-0 count.", () -> {
            TrigramReaders x = loaded("reader q a;document a_a;train q 0;");
            s.due("a", 2, () -> x.countOrder0(0, 0));
            s.due("b", 0, () -> x.countOrder0(0, 1));
            s.due("z", 0, () -> x.countOrder0(0, Z));
            s.due("_", 1, () -> x.countOrder0(0, UNDERSCORE));
        });
        s.test("Promise 15", NO_SYMBOL, () -> wrongSymbols((x, symbol) -> x.countOrder0(0, symbol)));
        reader(16, (x, r) -> x.countOrder1(r, 0, 0));
        s.test("Promise 16", "Returns its order-1 count.", () -> {
            TrigramReaders x = loaded("reader q a;document a_a_;train q 0;");
            s.due("_ after a", 2, () -> x.countOrder1(0, 0, UNDERSCORE));
            s.due("a after _", 1, () -> x.countOrder1(0, UNDERSCORE, 0));
            s.due("a after a", 0, () -> x.countOrder1(0, 0, 0));
            s.due("_ after _", 0, () -> x.countOrder1(0, UNDERSCORE, UNDERSCORE));
            s.due("a after b", 0, () -> x.countOrder1(0, 1, 0));
        });
        s.test("Promise 16", NO_SYMBOL, () -> {
            wrongSymbols((x, symbol) -> x.countOrder1(0, symbol, 0));
            wrongSymbols((x, symbol) -> x.countOrder1(0, 0, symbol));
        });
        reader(17, (x, r) -> x.countOrder2(r, 0, 0, 0));
        s.test("Promise 17", "Returns its order-2 count.", () -> {
            TrigramReaders x = loaded("reader q a;document aa__aa_;train q 0;");
            s.due("_ after aa", 2, () -> x.countOrder2(0, 0, 0, UNDERSCORE));
            s.due("a after __", 1, () -> x.countOrder2(0, UNDERSCORE, UNDERSCORE, 0));
            s.due("_ after a_", 1, () -> x.countOrder2(0, 0, UNDERSCORE, UNDERSCORE));
            s.due("a after ab", 0, () -> x.countOrder2(0, 0, 1, 0));
            s.due("_ after _a", 0, () -> x.countOrder2(0, UNDERSCORE, 0, UNDERSCORE));
            s.due("a after _a", 1, () -> x.countOrder2(0, UNDERSCORE, 0, 0));
            s.due("a after aa", 0, () -> x.countOrder2(0, 0, 0, 0));
            s.due("_ after __", 0, () -> x.countOrder2(0, UNDERSCORE, UNDERSCORE, UNDERSCORE));
        });
        s.test("Promise 17", NO_SYMBOL, () -> {
            wrongSymbols((x, symbol) -> x.countOrder2(0, symbol, 0, 0));
            wrongSymbols((x, symbol) -> x.countOrder2(0, 0, symbol, 0));
            wrongSymbols((x, symbol) -> x.countOrder2(0, 0, 0, symbol));
        });
        reader(18, (x, r) -> x.contextTotal(r, NONE, NONE));
        contextOnly(18, (x, r, b, p) -> x.contextTotal(r, b, p));
        reader(19, (x, r) -> x.contextSymbols(r, NONE, NONE));
        contextOnly(19, (x, r, b, p) -> x.contextSymbols(r, b, p));
    }

    /** The symbols on both sides of each context, so that a count of a neighbour would be seen. */
    private static TrigramReaders neighbours() {
        return loaded("reader q a;document aaza___z_a;document ab_aa_b;train q 0;train q 0;train q 1;");
    }

    private void countQuestions() {
        s.test("Promise 18", "Returns the sum of the counts of all symbols at the first order of the context.", () -> {
            TrigramReaders x = neighbours();
            s.due("order 0", 20 + 7, () -> x.contextTotal(0, NONE, NONE));
            // aaza___z_a: aa az za a_ __ __ _z z_ _a, twice; ab_aa_b: ab b_ _a aa a_ _b.
            s.due("after a", 2 * 3 + 3, () -> x.contextTotal(0, NONE, 0));
            s.due("after b", 1, () -> x.contextTotal(0, NONE, 1));
            s.due("after z", 2 * 2, () -> x.contextTotal(0, NONE, Z));
            s.due("after _", 2 * 4 + 2, () -> x.contextTotal(0, NONE, UNDERSCORE));
            s.due("after aa", 2 + 1, () -> x.contextTotal(0, 0, 0));
            s.due("after __", 2 * 2, () -> x.contextTotal(0, UNDERSCORE, UNDERSCORE));
            s.due("after _z", 2, () -> x.contextTotal(0, UNDERSCORE, Z));
            s.due("after za, where lower orders have something", 2, () -> x.contextTotal(0, Z, 0));
            s.due("after ba, where only lower orders have something", 0, () -> x.contextTotal(0, 1, 0));
            // a after b is the count right behind those after a.
            TrigramReaders y = loaded("reader q a;document aba;train q 0;");
            s.due("after a alone", 1, () -> y.contextTotal(0, NONE, 0));
            s.due("after b alone", 1, () -> y.contextTotal(0, NONE, 1));
            y.forget(0);
            s.due("nothing is left", 0, () -> y.contextTotal(0, NONE, NONE));
            s.due("nothing is left after a", 0, () -> y.contextTotal(0, NONE, 0));
        });
        s.test("Promise 19", "Returns the number of symbols that occur at the first order of the context.", () -> {
            TrigramReaders x = neighbours();
            s.due("order 0", 4, () -> x.contextSymbols(0, NONE, NONE));
            s.due("after a", 4, () -> x.contextSymbols(0, NONE, 0));
            s.due("after b", 1, () -> x.contextSymbols(0, NONE, 1));
            s.due("after z", 2, () -> x.contextSymbols(0, NONE, Z));
            s.due("after _", 4, () -> x.contextSymbols(0, NONE, UNDERSCORE));
            s.due("after aa", 2, () -> x.contextSymbols(0, 0, 0));
            s.due("after __", 2, () -> x.contextSymbols(0, UNDERSCORE, UNDERSCORE));
            s.due("after ba", 0, () -> x.contextSymbols(0, 1, 0));
            s.due("nothing known", 0, () -> loaded("reader q a;").contextSymbols(0, NONE, NONE));
            s.due("all 27", 27, () -> loaded("reader q a;document " + TermBoundaries.FORTY + ";train q 0;").contextSymbols(0, NONE, NONE));
        });
        reader(20, (x, r) -> x.order2Contexts(r));
        s.test("Promise 20", "Returns the number of pairs of symbols for which at least one order-2 count is greater than 0.", () -> {
            s.due("nothing known", 0, () -> loaded("reader q a;").order2Contexts(0));
            s.due("two symbols are no triple", 0, () -> loaded("reader q a;document ab;train q 0;").order2Contexts(0));
            s.due("the first pair", 1, () -> loaded("reader q a;document aaa;train q 0;").order2Contexts(0));
            s.due("the last pair", 1, () -> loaded("reader q a;document ___;train q 0;").order2Contexts(0));
            s.due("two symbols after one pair", 1, () -> loaded("reader q a;document aba;document ab_;train q 0;train q 1;").order2Contexts(0));
            s.due("neighbouring pairs", 2, () -> loaded("reader q a;document aa_;document aba;train q 0;train q 1;").order2Contexts(0));
            TrigramReaders x = loaded("reader q a;document aaa;document bbb;train q 0;train q 0;train q 1;");
            s.due("counts of 2 and 1", 2, () -> x.order2Contexts(0));
            x.endYear();
            s.due("counts of 1 and 0", 1, () -> x.order2Contexts(0));
            x.endYear();
            s.due("counts of 0", 0, () -> x.order2Contexts(0));
        });
        reader(21, (x, r) -> x.positiveCounts(r));
        s.test("Promise 21", "Returns the number of all counts of the three tables that are greater than 0.", () -> {
            s.due("nothing known", 0, () -> loaded("reader q a;").positiveCounts(0));
            s.due("as many as there can be", 27 + 8 * 39 + 8 * 38, () -> crowded().positiveCounts(0));
            s.due("one of each table", 3, () -> loaded("reader q a;document aaa;train q 0;").positiveCounts(0));
            TrigramReaders x = loaded("reader q a;document aba;train q 0;train q 0;");
            s.due("a b, ab ba, aba", 5, () -> x.positiveCounts(0));
            x.endYear();
            s.due("counts of 2 are 1 now", 5, () -> x.positiveCounts(0));
            x.endYear();
            s.due("a alone had 4", 1, () -> x.positiveCounts(0));
            x.endYear();
            s.due("nothing is left", 0, () -> x.positiveCounts(0));
        });
        readerAndDocument(22, (x, r, d) -> x.timesTrained(r, d));
        reader(23, (x, r) -> x.trainedSymbols(r));
        s.test("Promise 23", "Returns the number of symbols that the reader was trained on since it was added or since its latest forget;", () -> {
            TrigramReaders x = fresh();
            x.forget(0);
            s.due("forget", 0, () -> x.trainedSymbols(0));
            x.train(0, 1);
            s.due("train", 6, () -> x.trainedSymbols(0));
            x.learn(0, 0);
            s.due("learn", 18, () -> x.trainedSymbols(0));
            x.endYear();
            s.due("a year changes nothing", 18, () -> x.trainedSymbols(0));
            s.due("the other one was not made to forget", 18, () -> x.trainedSymbols(1));
            x.forget(0);
            x.train(0, 1);
            s.due("the latest forget", 6, () -> x.trainedSymbols(0));
            typed(x, "eve").addReader(A);
            s.due("added", 0, () -> x.trainedSymbols(2));
        });
        s.test("Promise 23", "merge adds the number of the source to that of the target.", () -> {
            TrigramReaders x = fresh();
            x.train(0, 1);
            x.merge(0, 1);
            s.due("target", 18 + 24, () -> x.trainedSymbols(1));
            s.due("source", 24, () -> x.trainedSymbols(0));
        });
        reader(24, (x, r) -> x.trainingGap(r));
        s.test("Promise 24", "this is always 0.", () -> {
            TrigramReaders x = typed(full(), "abc");
            Sentences.Use[] changes = {y -> y.train(0, 0), y -> y.learn(1, 5), y -> y.merge(0, 1), y -> y.endYear(), y -> y.undo(), y -> y.save(0),
                y -> y.forget(1), y -> y.restore(0), y -> y.merge(1, 3), y -> typed(y, "?").truncateInput(3), y -> y.train(3, 7)};
            for (int i = 0; i < changes.length; i++) {
                changes[i].on(x);
                for (int r = 0; r < 4; r++) {
                    int reader = r;
                    s.due("reader " + r + " after change " + i, 0, () -> x.trainingGap(reader));
                }
            }
            // The number of symbols grows beyond an int here.
            for (int i = 0; i < 120; i++) {
                x.merge(i % 2, 1 - i % 2);
                int reader = i % 2;
                s.due("after merge " + i, 0, () -> x.trainingGap(reader));
            }
        });
    }

    /** Eight documents of 40 symbols without a pair that stands in them twice, and a reader trained on all of them. */
    private static TrigramReaders crowded() {
        TrigramReaders x = loaded("reader q a;");
        boolean[][] used = new boolean[27][27];
        for (int document = 0; document < 8; document++) {
            StringBuilder text = new StringBuilder();
            int latest = document * 3;
            while (text.length() < 40) {
                text.append("abcdefghijklmnopqrstuvwxyz_".charAt(latest));
                int step = 0;
                while (used[latest][(latest + step) % 27]) {
                    step++;
                }
                int next = (latest + step) % 27;
                used[latest][next] = true;
                latest = next;
            }
            typed(x, text.toString()).addDocument();
            x.train(0, document);
        }
        return x;
    }

    // ---- promises 25 to 32

    private void byContext() {
        reader(25, (x, r) -> x.symbolAtRank(r, NONE, NONE, 1));
        nones(25, (x, r, b, p) -> x.symbolAtRank(r, b, p, 1));
        s.test("Promise 25", "- `rank`: a rank, 1 to 27", () -> {
            TrigramReaders x = fresh();
            s.due("1", 0, () -> x.symbolAtRank(0, NONE, NONE, 1));
            s.due("27", UNDERSCORE, () -> x.symbolAtRank(0, NONE, NONE, 27));
            s.due("1 after ba", N, () -> x.symbolAtRank(0, 1, 0, 1));
            s.due("27 after ba", UNDERSCORE, () -> x.symbolAtRank(0, 1, 0, 27));
        });
        s.test("Promise 25", "Throws `IllegalArgumentException` if the context is not valid or the rank is out of range", () -> {
            wrongContexts((x, r, b, p) -> x.symbolAtRank(r, b, p, 1));
            for (int wrong : new int[] {0, -1, 28, 29, EXTREMES[0], EXTREMES[1], EXTREMES[2], EXTREMES[3]}) {
                s.refused("rank " + wrong, ILLEGAL, TrigramReaders::new, x -> x.symbolAtRank(0, NONE, NONE, wrong));
                s.refused("rank " + wrong, ILLEGAL, TrigramReaders::new, x -> x.symbolAtRank(0, 0, N, wrong));
            }
        });
        contextAndSymbol(26, (x, r, b, p, symbol) -> x.rank(r, b, p, symbol));
        contextAndSymbol(27, (x, r, b, p, symbol) -> x.foundOrder(r, b, p, symbol));
        contextAndSymbol(28, (x, r, b, p, symbol) -> x.escapes(r, b, p, symbol));
        contextAndSymbol(29, (x, r, b, p, symbol) -> x.numerator(r, b, p, symbol));
        contextAndSymbol(30, (x, r, b, p, symbol) -> x.denominator(r, b, p, symbol));
        contextAndSymbol(31, (x, r, b, p, symbol) -> x.probability(r, b, p, symbol));
        contextAndSymbol(32, (x, r, b, p, symbol) -> x.codeLength(r, b, p, symbol));
    }

    private void atRank() {
        s.test("Promise 27", "Returns the found order of the symbol: 2, 1, 0 or -1.", () -> {
            TrigramReaders x = fresh();
            s.due("n after ba", 2, () -> x.foundOrder(0, 1, 0, N));
            s.due("b after ba", 1, () -> x.foundOrder(0, 1, 0, 1));
            s.due("r after ba", 0, () -> x.foundOrder(0, 1, 0, 17));
            s.due("c after ba", -1, () -> x.foundOrder(0, 1, 0, 2));
        });
        // Method A: 2/4. Method D: 3/6; then 2/6 and 1/25.
        String text = ";document aab;train q 0;";
        s.test("Promise 31", "Returns the numerator converted to double, divided by the denominator converted to double.", () -> {
            s.due("2/3", 2.0 / 3.0, () -> fresh().probability(0, 0, N, 0));
            s.due("5/11", 5.0 / 11.0, () -> fresh().probability(0, NONE, NONE, 0));
            s.due("1/644", 1.0 / 644.0, () -> fresh().probability(0, 1, 0, 2));
            s.due("1/27", 1.0 / 27.0, () -> loaded("reader q a;").probability(0, NONE, NONE, 0));
        });
        s.test("Promise 29", "Returns the numerator of the probability of the symbol as a fraction in lowest terms.", () -> {
            s.due("2/4", 1, () -> loaded("reader q a" + text).numerator(0, NONE, NONE, 0));
            s.due("3/6", 1, () -> loaded("reader q d" + text).numerator(0, NONE, NONE, 0));
            s.due("2/6 and 1/25", 1, () -> loaded("reader q d" + text).numerator(0, NONE, NONE, Z));
            s.due("2/5", 2, () -> loaded("reader q c" + text).numerator(0, NONE, NONE, 0));
            s.due("2/5 and 1/25", 2, () -> loaded("reader q c" + text).numerator(0, NONE, NONE, Z));
        });
        s.test("Promise 30", "Returns the denominator of the probability of the symbol as a fraction in lowest terms.", () -> {
            s.due("2/4", 2, () -> loaded("reader q a" + text).denominator(0, NONE, NONE, 0));
            s.due("3/6", 2, () -> loaded("reader q d" + text).denominator(0, NONE, NONE, 0));
            s.due("2/6 and 1/25", 75, () -> loaded("reader q d" + text).denominator(0, NONE, NONE, Z));
            s.due("2/5", 5, () -> loaded("reader q c" + text).denominator(0, NONE, NONE, 0));
            s.due("2/5 and 1/25", 125, () -> loaded("reader q c" + text).denominator(0, NONE, NONE, Z));
        });
    }

    // ---- promises 33 to 41

    private void readDocuments() {
        readerAndDocument(33, (x, r, d) -> x.rankAt(r, d, 0));
        s.test("Promise 33", "- `position`: a position in the document, from 0", () -> {
            s.due("the first", 2, () -> fresh().rankAt(0, 1, 0));
            s.due("the last", 1, () -> fresh().rankAt(0, 1, 5));
            s.due("the fifth of abra_cadabra", 27, () -> fresh().rankAt(0, 0, 4));
        });
        s.test("Promise 33", "Throws `NoSuchElementException` if the document has no such position", () -> {
            positions(6, TrigramReaders::new, (x, at) -> x.rankAt(0, 1, at));
            positions(1, CallBoundaries::full, (x, at) -> x.rankAt(3, 1, at));
            positions(40, CallBoundaries::full, (x, at) -> x.rankAt(3, 7, at));
        });
        readerAndDocument(34, (x, r, d) -> x.totalGuesses(r, d));
        readerAndDocument(35, (x, r, d) -> x.adaptiveGuesses(r, d));
        readerAndDocument(36, (x, r, d) -> x.firstGuessHits(r, d));
        readerAndDocument(37, (x, r, d) -> x.unseenSymbols(r, d));
        readerAndDocument(38, (x, r, d) -> x.hardestPosition(r, d));
        readerAndDocument(39, (x, r, d) -> x.totalBits(r, d));
        readerAndDocument(40, (x, r, d) -> x.meanGuesses(r, d));
        readerAndDocument(41, (x, r, d) -> x.hitShare(r, d));
    }

    private void reading() {
        s.test("Promise 35", "Returns the sum of the ranks over all positions if the reader learned each symbol of the document right after it was guessed.", () -> {
            // Nothing is known: z 26; then z at once, by order 0, 1 and 2.
            TrigramReaders x = loaded("reader q a;document zzzz;document z;document zyzy;");
            s.due("the first one is learned at once", 26 + 1 + 1 + 1, () -> x.adaptiveGuesses(0, 0));
            s.due("one symbol is learned too late", 26, () -> x.adaptiveGuesses(0, 1));
            // z 26; y 26 behind z; z after y: y and z, equal; y after z, by order 1.
            s.due("by order 1", 26 + 26 + 2 + 1, () -> x.adaptiveGuesses(0, 2));
            s.due("nothing was learned", 26 * 4, () -> x.totalGuesses(0, 0));
            s.due("learn guesses as often", 26 + 26 + 2 + 1, () -> x.learn(0, 2));
        });
        s.test("Promise 34", "Returns the sum of the ranks over all positions of the document.", () -> {
            s.due("the least", 1, () -> loaded("reader q a;document a;").totalGuesses(0, 0));
            s.due("the most", 1080, () -> loaded("reader q a;document " + "_".repeat(40) + ";").totalGuesses(0, 0));
            s.due("banana, for ann", 2 + 1 + 1 + 1 + 1 + 1, () -> fresh().totalGuesses(0, 1));
        });
        s.test("Promise 36", "Returns the number of positions with the rank 1.", () -> {
            s.due("none", 0, () -> loaded("reader q a;document _b_;").firstGuessHits(0, 0));
            s.due("all", 40, () -> loaded("reader q a;document " + TermBoundaries.FORTY_A + ";").firstGuessHits(0, 0));
            s.due("the first one", 1, () -> loaded("reader q a;document abb;").firstGuessHits(0, 0));
            s.due("the last one", 1, () -> loaded("reader q a;document bba;").firstGuessHits(0, 0));
            s.due("banana, for ann", 5, () -> fresh().firstGuessHits(0, 1));
        });
        s.test("Promise 39", "Returns the sum of the code lengths over all positions of the document.", () -> {
            s.due("1/27", 5, () -> loaded("reader q a;document a;").totalBits(0, 0));
            s.due("40 times 1/27", 200, () -> loaded("reader q a;document " + TermBoundaries.FORTY + ";").totalBits(0, 0));
            // 2/11, 1/3, 1/2, 2/3, 1/2 and 2/3.
            s.due("banana, for ann", 3 + 2 + 1 + 1 + 1 + 1, () -> fresh().totalBits(0, 1));
            // b 1/2; then, behind b alone, c by order 0: 1/2 * 1/26.
            // c 1/10; b after c 1/2; a after cb 1/2, where it would be 1/5 after b alone.
            s.due("by order 2", 4 + 1 + 1, () -> loaded("reader q a;document cba;document bd;train q 0;train q 1;train q 1;train q 1;").totalBits(0, 0));
            s.due("by the contexts", 1 + 6, () -> loaded("reader q a;document b;document bc;train q 0;").totalBits(0, 1));
        });
        s.test("Promise 40", "Returns totalGuesses converted to double, divided by documentLength converted to double.", () -> {
            s.due("one symbol", 27.0, () -> loaded("reader q a;document _;").meanGuesses(0, 0));
            s.due("no whole number", 7.0 / 6.0, () -> fresh().meanGuesses(0, 1));
            s.due("1080 and 40", 27.0, () -> loaded("reader q a;document " + "_".repeat(40) + ";").meanGuesses(0, 0));
        });
        s.test("Promise 41", "Returns firstGuessHits converted to float, divided by documentLength converted to float.", () -> {
            s.due("none", 0.0, () -> loaded("reader q a;document _;").hitShare(0, 0));
            s.due("all", 1.0, () -> loaded("reader q a;document aa;").hitShare(0, 0));
            s.due("all of one", 1.0, () -> loaded("reader q a;document a;").hitShare(0, 0));
            s.due("no whole number", 5.0f / 6.0f, () -> fresh().hitShare(0, 1));
        });
        s.test("Promise 37", "Returns the number of positions whose symbol has the found order -1.", () -> {
            TrigramReaders x = loaded("reader q a;document aab;document bb;train q 0;");
            s.due("all are seen", 0, () -> x.unseenSymbols(0, 0));
            s.due("seen at order 0 alone", 0, () -> x.unseenSymbols(0, 1));
            TrigramReaders y = loaded("reader q a;document aab;document bac;train q 1;year;");
            s.due("a count that was halved to 0", 3, () -> y.unseenSymbols(0, 0));
            y.train(0, 0);
            s.due("the last position alone", 1, () -> y.unseenSymbols(0, 1));
        });
        s.test("Promise 38", "Returns the position with the greatest rank;", () -> {
            s.due("the last one", 3, () -> loaded("reader q a;document aabc;").hardestPosition(0, 0));
            s.due("the first one", 0, () -> loaded("reader q a;document cbaa;").hardestPosition(0, 0));
            s.due("one between", 1, () -> loaded("reader q a;document b_ab;").hardestPosition(0, 0));
            s.due("the only one", 0, () -> loaded("reader q a;document _;").hardestPosition(0, 0));
        });
        s.test("Promise 38", "the first one if several positions have it.", () -> {
            s.due("all", 0, () -> loaded("reader q a;document " + TermBoundaries.FORTY_A + ";").hardestPosition(0, 0));
            s.due("the second and the last", 1, () -> loaded("reader q a;document a_b_;").hardestPosition(0, 0));
        });
    }

    // ---- promises 42 to 44

    private void bests() {
        s.test("Promise 42", "Returns the reader with the smallest totalGuesses for this document;", () -> {
            String text = "reader a a;reader b a;reader c a;reader d a;document c;document b;";
            s.due("the last one", 3, () -> loaded(text + "train d 0;").bestReader(0));
            s.due("the second one", 1, () -> loaded(text + "train b 0;").bestReader(0));
            // b is second for all; d has learned c, so that b is third for it.
            s.due("not the greatest", 0, () -> loaded(text + "train d 0;").bestReader(1));
            s.due("not the first", 1, () -> loaded(text + "train a 0;").bestReader(1));
        });
        s.test("Promise 42", "the one with the smallest number if several have it;", () -> {
            String text = "reader a a;reader b a;reader c a;reader d a;document c;";
            s.due("all", 0, () -> loaded(text).bestReader(0));
            s.due("the last three", 1, () -> loaded(text + "train b 0;train c 0;train d 0;").bestReader(0));
            s.due("1080 guesses each", 0, () -> loaded("reader a a;reader b a;document " + "_".repeat(40) + ";").bestReader(0));
        });
        s.test("Promise 42", "NONE if there are no readers.", () -> {
            s.due("one document", NONE, () -> loaded("document a;").bestReader(0));
            s.due("eight documents", NONE, () -> loaded(TermBoundaries.EIGHT_DOCUMENTS).bestReader(7));
        });
        s.test("Promise 42", NO_DOCUMENT, () -> {
            numbered((x, d) -> x.bestReader(d), 2, 8);
            s.refused("no readers either", MISSING, () -> loaded("document a;"), x -> x.bestReader(1));
        });
        reader(43, (x, r) -> x.hardestDocument(r));
        s.test("Promise 43", "Returns the document with the greatest totalGuesses;", () -> {
            s.due("the last one", 2, () -> loaded("reader q a;document b;document a;document c;").hardestDocument(0));
            s.due("the first one", 0, () -> loaded("reader q a;document c;document a;document b;").hardestDocument(0));
            s.due("by guesses, not by their mean", 1, () -> loaded("reader q a;document c;document aaaa;").hardestDocument(0));
            s.due("the last of eight", 7, () -> full().hardestDocument(2));
        });
        s.test("Promise 43", "the one with the smallest number if several have it;", () -> {
            s.due("both", 0, () -> loaded("reader q a;document a;document a;").hardestDocument(0));
            s.due("the last two", 1, () -> loaded("reader q a;document aa;document c;document ab;").hardestDocument(0));
        });
        s.test("Promise 43", "NONE if there are no documents.", () -> {
            s.due("one reader", NONE, () -> loaded("reader q a;").hardestDocument(0));
            s.due("four readers", NONE, () -> loaded(TermBoundaries.FOUR_READERS).hardestDocument(3));
        });
        s.test("Promise 44", "- `trained`: the document that the reader is trained on first", () -> {
            TrigramReaders x = loaded("reader q a;document b;document ba;");
            // b is first then; a is second behind b.
            s.due("b, then ba", 1 + 2, () -> x.guessesAfterTraining(0, 0, 1));
            // a and b are equal then.
            s.due("ba, then b", 2, () -> x.guessesAfterTraining(0, 1, 0));
        });
        s.test("Promise 44", "Returns totalGuesses for the second document if the reader was trained once on the first document before.", () -> {
            TrigramReaders x = loaded("reader q a;document b;document aa;document bb;train q 1;");
            s.due("once: a 2, b 1", 2, () -> x.guessesAfterTraining(0, 0, 0));
            s.due("twice the symbol: a 2, b 2", 2, () -> x.guessesAfterTraining(0, 2, 0));
            s.due("itself", 2 + 1, () -> x.guessesAfterTraining(0, 2, 2));
            TrigramReaders twin = fresh();
            int due = twin.train(1, 1);
            s.due("as train answers", due, () -> fresh().guessesAfterTraining(1, 1, 1));
            s.due("nothing is kept", 2, () -> {
                x.guessesAfterTraining(0, 2, 0);
                return x.countOrder0(0, 0);
            });
        });
        s.test("Promise 44", "Throws `IndexOutOfBoundsException` if the reader or one of the documents does not exist", () -> {
            numbered((x, r) -> x.guessesAfterTraining(r, 0, 0), 2, 4);
            numbered((x, d) -> x.guessesAfterTraining(0, d, 0), 2, 8);
            numbered((x, d) -> x.guessesAfterTraining(0, 0, d), 2, 8);
        });
    }

    // ---- promise 45

    /** b leads by so many trainings, each training on a takes one of them, and a comes first when they are equal. */
    private static TrigramReaders led(int lead) {
        TrigramReaders x = loaded("reader q a;document a;document b;");
        Sentences.times(lead, () -> x.train(0, 1));
        return x;
    }

    private void limits() {
        s.test("Promise 45", "- `limit`: a number of guesses, 1 to 1080", () -> {
            s.due("1", 0, () -> loaded("reader q a;document a;").trainingsNeeded(0, 0, 1));
            s.due("1080", 0, () -> loaded("reader q a;document a;").trainingsNeeded(0, 0, 1080));
            String longest = "reader q a;document " + "_".repeat(40) + ";";
            s.due("1080 are needed", 0, () -> loaded(longest).trainingsNeeded(0, 0, 1080));
            s.due("1079 are too few", 1, () -> loaded(longest).trainingsNeeded(0, 0, 1079));
        });
        s.test("Promise 45", "Returns the smallest number of trainings on this document, 0 to 20, after which totalGuesses for it is not greater than the limit;", () -> {
            for (int lead : new int[] {0, 1, 2, 19, 20}) {
                s.due("a lead of " + lead, lead, () -> led(lead).trainingsNeeded(0, 0, 1));
            }
            // Nothing is known: zz needs 52 guesses, and 2 after one training.
            TrigramReaders x = loaded("reader q a;document zz;");
            s.due("equal to the limit", 0, () -> x.trainingsNeeded(0, 0, 52));
            s.due("greater than the limit", 1, () -> x.trainingsNeeded(0, 0, 51));
            s.due("equal after one", 1, () -> x.trainingsNeeded(0, 0, 2));
            s.due("no training is kept", 0, () -> x.timesTrained(0, 0));
        });
        s.test("Promise 45", "NONE if there is none.", () -> {
            s.due("a lead of 21", NONE, () -> led(21).trainingsNeeded(0, 0, 1));
            s.due("fewer guesses than symbols", NONE, () -> loaded("reader q a;document zz;").trainingsNeeded(0, 0, 1));
            s.due("fewer guesses than 40 symbols", NONE, () -> full().trainingsNeeded(0, 7, 39));
        });
        s.test("Promise 45", NEITHER, () -> {
            numbered((x, r) -> x.trainingsNeeded(r, 0, 1), 2, 4);
            numbered((x, d) -> x.trainingsNeeded(0, d, 1), 2, 8);
            s.refused("and no limit either", MISSING, TrigramReaders::new, x -> x.trainingsNeeded(0, 2, 0));
        });
        s.test("Promise 45", "Throws `IllegalArgumentException` if the limit is out of range", () -> {
            for (int wrong : new int[] {0, -1, 1081, 1082, EXTREMES[0], EXTREMES[1], EXTREMES[2], EXTREMES[3]}) {
                s.refused("limit " + wrong, ILLEGAL, TrigramReaders::new, x -> x.trainingsNeeded(0, 0, wrong));
            }
        });
    }

    // ---- promise 46

    private void years() {
        reader(46, (x, r) -> x.yearsToForget(r));
        s.test("Promise 46", "Returns the smallest number of year ends after which all counts of the reader are 0;", () -> {
            int[] counts = {1, 2, 3, 4, 7, 8, 15, 16, 31, 32, 255, 256, 511, 512, 999};
            int[] due = {1, 2, 2, 3, 3, 4, 4, 5, 5, 6, 8, 9, 9, 10, 10};
            for (int i = 0; i < counts.length; i++) {
                TrigramReaders x = counted(counts[i]);
                s.due("a count of " + counts[i], due[i], () -> x.yearsToForget(0));
            }
            TrigramReaders y = counted(999);
            Sentences.times(9, () -> y.endYear());
            s.due("the last but one", 1, () -> y.countOrder0(0, 0));
            s.due("one more", 1, () -> y.yearsToForget(0));
            y.endYear();
            s.due("nothing is left", 0, () -> y.positiveCounts(0));
            TrigramReaders z = loaded("reader p a;reader q a;document _;document a;train p 0;train p 0;train p 1;");
            s.due("the greatest count is that of the last symbol", 2, () -> z.yearsToForget(0));
        });
        s.test("Promise 46", "0 if they are 0 now.", () -> {
            s.due("a new reader", 0, () -> loaded("reader q a;").yearsToForget(0));
            TrigramReaders x = fresh();
            x.forget(0);
            s.due("forget", 0, () -> x.yearsToForget(0));
            TrigramReaders y = counted(1);
            y.endYear();
            s.due("a year", 0, () -> y.yearsToForget(0));
        });
    }

    /** The first reader has seen a so many times, or 999 times. */
    private static TrigramReaders counted(int count) {
        String rest = count % 40 == 0 ? "a" : "a".repeat(count % 40);
        TrigramReaders x = loaded("reader q a;reader p a;document " + TermBoundaries.FORTY_A + ";document " + rest + ";");
        Sentences.times(count / 40, () -> x.train(0, 0));
        Sentences.times(count % 40 == 0 ? 0 : 1, () -> x.train(0, 1));
        return x;
    }

    // ---- promise 47

    private void pairs() {
        s.test("Promise 47", "Returns the number of pairs of symbols for which at least one order-2 count of the first or of the second reader is greater than 0, "
            + "and for which both readers have the same symbol at rank 1 in the context of this pair.", () -> {
                String readers = "reader a a;reader b a;";
                s.due("no pair", 0, () -> loaded(readers).agreements(0, 1));
                s.due("no triple", 0, () -> loaded(readers + "document aa;train a 0;train b 0;").agreements(0, 1));
                s.due("the first pair, of the first reader alone", 1, () -> loaded(readers + "document aaa;train a 0;").agreements(0, 1));
                s.due("the first pair, of the second reader alone", 1, () -> loaded(readers + "document aaa;train b 0;").agreements(0, 1));
                s.due("the first pair, of both", 1, () -> loaded(readers + "document aaa;train a 0;train b 0;").agreements(0, 1));
                s.due("the last pair, of both", 1, () -> loaded(readers + "document ___;train a 0;train b 0;").agreements(0, 1));
                s.due("the last pair, of one: a is first for the other", 0, () -> loaded(readers + "document ___;train a 0;").agreements(0, 1));
                s.due("two pairs", 2, () -> loaded(readers + "document aaa;document ___;train a 0;train b 0;train a 1;train b 1;").agreements(0, 1));
                s.due("not the same symbol", 0, () -> loaded(readers + "document aaa;document aab;train a 0;train b 1;").agreements(0, 1));
                s.due("a count that was halved to 0", 0, () -> loaded(readers + "document aaa;train a 0;year;").agreements(0, 1));
                // After za both guess b, though c is the most frequent symbol for one of them, and d for the other.
                for (String other : new String[] {"c;document d", "ac;document ad"}) {
                    String text = readers + "document zab;document " + other + ";train a 0;train b 0;train a 1;train a 1;train b 2;train b 2;";
                    s.due("the pair, not what is frequent: " + other, 1, () -> loaded(text).agreements(0, 1));
                }
                s.due("one of the last pairs, not what is frequent", 1, () -> loaded(readers + "document z_b;document _c;document _d;"
                    + "train a 0;train b 0;train a 1;train a 1;train b 2;train b 2;").agreements(0, 1));
                s.due("not the same, though a is first for both without it", 0,
                    () -> loaded(readers + "document zab;document zac;train a 0;train b 1;").agreements(0, 1));
            });
        s.test("Promise 47", ONE_OF_READERS, () -> {
            numbered((x, r) -> x.agreements(r, r == 1 ? 0 : 1), 2, 4);
            numbered((x, r) -> x.agreements(r == 0 ? 1 : 0, r), 2, 4);
            s.refused("a missing one twice", MISSING, TrigramReaders::new, x -> x.agreements(2, 2));
        });
        s.test("Promise 47", SAME_READER, () -> {
            s.refused("the first", ILLEGAL, TrigramReaders::new, x -> x.agreements(0, 0));
            s.refused("the last", ILLEGAL, CallBoundaries::full, x -> x.agreements(3, 3));
            s.answered("two of them", CallBoundaries::full, x -> x.agreements(3, 2));
        });
    }

    // ---- promises 48 and 49

    private static final String[] NO_NAMES = {"", "abcde", "_", "a_", "_a", "a1", "1", "A", "aB", "a ", " a", "a\n", "a;", "\0", "a\0", "a\u00e1",
        "`", "{", "abcdefghijklmnopqrst"};
    private static final String[] NO_DOCUMENTS = {"", " ", "a ", " a", "a\n", "a;", "A", "aZ", "a1", "a-b", "\0", "a\0", "\u00e1", "`", "{", "^",
        TermBoundaries.FORTY + "n", "_".repeat(41), "a".repeat(500)};

    private void adding() {
        s.test("Promise 48", "The whole input buffer is its name.", () -> {
            Sentences.Make make = () -> {
                TrigramReaders x = typed(typed(fresh(), "ab"), "yz");
                x.addReader(C);
                return x;
            };
            s.due("the first letter", 'a', () -> make.object().readerNameByte(2, 0));
            s.due("the last letter", 'z', () -> make.object().readerNameByte(2, 3));
            s.refused("a name and more", ILLEGAL, () -> typed(fresh(), "ab a"), x -> x.addReader(A));
            s.refused("a name and a zero byte", ILLEGAL, () -> typed(fresh(), "ab\0"), x -> x.addReader(A));
        });
        s.test("Promise 48", "The input buffer is empty afterwards.", () -> {
            TrigramReaders x = typed(fresh(), "abcd");
            x.addReader(A);
            s.due("the buffer", 0, () -> Snapshot.inputLength(x));
            TrigramReaders y = typed(fresh(), "ann");
            s.checks.refused("ann", STATE, () -> y.addReader(A));
            s.due("the buffer of a refused call", 3, () -> Snapshot.inputLength(y));
        });
        s.test("Promise 48", "- `method`: METHOD_A, METHOD_C or METHOD_D", () -> {
            for (int method : new int[] {A, C, D}) {
                TrigramReaders x = typed(fresh(), "q");
                x.addReader(method);
                s.due("method " + method, method, () -> x.escapeMethod(2));
            }
        });
        s.test("Promise 48", "Returns the number of the new reader.", () -> {
            s.due("the first", 0, () -> typed(loaded(""), "q").addReader(A));
            TrigramReaders x = typed(fresh(), "q");
            s.due("the third", 2, () -> x.addReader(A));
            x.undo();
            typed(x, "q");
            s.due("the third again", 2, () -> x.addReader(A));
            typed(x, "r");
            s.due("the fourth", 3, () -> x.addReader(A));
        });
        s.test("Promise 48", "Throws `IllegalArgumentException` if the method is out of range, or if the input buffer is not a name of 1 to 4 letters a to z", () -> {
            for (int wrong : new int[] {-1, 3, -2, 4, EXTREMES[0], EXTREMES[3]}) {
                s.refused("method " + wrong, ILLEGAL, () -> typed(fresh(), "q"), x -> x.addReader(wrong));
                s.refused("method " + wrong + " and a name that there is", ILLEGAL, () -> typed(fresh(), "ann"), x -> x.addReader(wrong));
            }
            for (String name : NO_NAMES) {
                s.refused("name '" + name + "'", ILLEGAL, () -> typed(fresh(), name), x -> x.addReader(A));
            }
            for (String name : new String[] {"a", "z", "az", "aaa", "zzzz"}) {
                s.answered("name " + name, () -> typed(fresh(), name), x -> x.addReader(A));
            }
        });
        s.test("Promise 48", "Throws `IllegalStateException` if there are 4 readers, or if a reader has this name", () -> {
            s.answered("3 readers", () -> typed(loaded("reader a a;reader b a;reader c a;"), "d"), x -> x.addReader(A));
            s.refused("4 readers", STATE, () -> typed(loaded(TermBoundaries.FOUR_READERS), "e"), x -> x.addReader(A));
            s.refused("4 readers and the name", STATE, () -> typed(loaded(TermBoundaries.FOUR_READERS), "dddd"), x -> x.addReader(A));
            s.refused("the first name", STATE, () -> typed(fresh(), "ann"), x -> x.addReader(A));
            s.refused("the last name", STATE, () -> typed(fresh(), "bob"), x -> x.addReader(D));
            s.answered("another name", () -> typed(fresh(), "bo"), x -> x.addReader(D));
        });
        s.test("Promise 49", "The whole input buffer consists of its symbols.", () -> {
            TrigramReaders x = typed(typed(fresh(), "ab"), "_z");
            x.addDocument();
            s.due("length", 4, () -> x.documentLength(2));
            s.due("the first", 0, () -> x.documentSymbol(2, 0));
            s.due("the last", Z, () -> x.documentSymbol(2, 3));
            s.refused("a word and more", ILLEGAL, () -> typed(fresh(), "ab ab"), y -> y.addDocument());
            s.refused("a word and a zero byte", ILLEGAL, () -> typed(fresh(), "ab\0"), y -> y.addDocument());
        });
        s.test("Promise 49", "The input buffer is empty afterwards.", () -> {
            TrigramReaders x = typed(fresh(), TermBoundaries.FORTY);
            x.addDocument();
            s.due("the buffer", 0, () -> Snapshot.inputLength(x));
            TrigramReaders y = typed(fresh(), "ab?");
            s.checks.refused("ab?", ILLEGAL, () -> y.addDocument());
            s.due("the buffer of a refused call", 3, () -> Snapshot.inputLength(y));
        });
        s.test("Promise 49", "Throws `IllegalArgumentException` if the input buffer does not consist of 1 to 40 letters a to z and underscores", () -> {
            for (String text : NO_DOCUMENTS) {
                s.refused("document '" + text + "'", ILLEGAL, () -> typed(fresh(), text), x -> x.addDocument());
            }
            for (String text : new String[] {"a", "_", "__", TermBoundaries.FORTY, "_".repeat(40)}) {
                s.answered("document " + text, () -> typed(fresh(), text), x -> x.addDocument());
            }
        });
        s.test("Promise 49", "Throws `IllegalStateException` if there are 8 documents", () -> {
            s.refused("8 documents", STATE, () -> typed(loaded(TermBoundaries.EIGHT_DOCUMENTS), "q"), x -> x.addDocument());
            String seven = TermBoundaries.EIGHT_DOCUMENTS.replace("document aa;", "") + "document aa;";
            s.due("7 documents", 7, () -> typed(loaded(seven), "q").addDocument());
        });
    }

    // ---- promises 50 to 54

    private void changing() {
        readerAndDocument(50, (x, r, d) -> x.train(r, d));
        s.test("Promise 50", "The training record of this pair is incremented.", () -> {
            TrigramReaders x = full();
            x.train(3, 7);
            x.train(3, 7);
            x.train(0, 0);
            s.due("the last pair", 2, () -> x.timesTrained(3, 7));
            s.due("the first pair", 2, () -> x.timesTrained(0, 0));
            s.due("another document", 0, () -> x.timesTrained(3, 0));
            s.due("another reader", 0, () -> x.timesTrained(2, 7));
        });
        s.test("Promise 50", "Returns totalGuesses for this document after the training.", () -> {
            TrigramReaders x = loaded("reader q a;document zz;");
            s.due("not 52", 2, () -> x.train(0, 0));
            s.due("as totalGuesses", 2, () -> x.totalGuesses(0, 0));
        });
        readerAndDocument(51, (x, r, d) -> x.learn(r, d));
        s.test("Promise 51", "The counts and the training record are the same afterwards as after train.", () -> {
            for (int document = 0; document < 8; document++) {
                TrigramReaders x = full();
                TrigramReaders twin = full();
                x.learn(3, document);
                twin.train(3, document);
                s.same("document " + document, x, twin);
            }
        });
        reader(52, (x, r) -> x.forget(r));
        s.test("Promise 52", "Sets all counts of a reader, its training records and its number of trained symbols to 0.", () -> {
            TrigramReaders x = full();
            x.train(3, 7);
            x.train(2, 7);
            x.forget(3);
            s.due("counts", 0, () -> x.positiveCounts(3));
            s.due("a count", 0, () -> x.countOrder0(3, 0));
            for (int i = 0; i < 8; i++) {
                int document = i;
                s.due("record " + i, 0, () -> x.timesTrained(3, document));
            }
            s.due("symbols", 0, () -> x.trainedSymbols(3));
            s.due("another reader", 1, () -> x.timesTrained(2, 7));
            s.due("another reader", 40, () -> x.trainedSymbols(2));
        });
        s.test("Promise 52", "Returns the number of counts that were greater than 0.", () -> {
            s.due("none", 0, () -> loaded("reader q a;").forget(0));
            s.due("one of each table", 3, () -> loaded("reader q a;document aaa;train q 0;").forget(0));
            s.due("halved ones", 2, () -> loaded("reader q a;document aaa;train q 0;year;").forget(0));
            TrigramReaders x = fresh();
            s.due("ann", 15, () -> x.forget(0));
            s.due("ann again", 0, () -> x.forget(0));
        });
        reader(53, (x, r) -> x.setEscapeMethod(r, D));
        s.test("Promise 53", "Throws `IllegalArgumentException` if the method is out of range", () -> {
            for (int wrong : new int[] {-1, 3, -2, 4, EXTREMES[0], EXTREMES[3]}) {
                s.refused("method " + wrong, ILLEGAL, TrigramReaders::new, x -> x.setEscapeMethod(1, wrong));
            }
            for (int method : new int[] {A, C, D}) {
                TrigramReaders x = fresh();
                s.due("the previous one", C, () -> x.setEscapeMethod(1, method));
                s.due("the new one", method, () -> x.escapeMethod(1));
            }
        });
    }

    // ---- promise 55

    /** The readers p and q have seen a 500 and 499 times. */
    private static TrigramReaders halves() {
        TrigramReaders x = loaded("reader p a;reader q a;document " + TermBoundaries.FORTY_A + ";document aaaaaaaaaaaaaaaaaaaa;document aaaaaaaaaaaaaaaaaaa;");
        Sentences.times(12, () -> x.train(0, 0));
        Sentences.times(12, () -> x.train(1, 0));
        x.train(0, 1);
        x.train(1, 2);
        return x;
    }

    private void merging() {
        s.test("Promise 55", "A sum that is greater than 999 becomes 999.", () -> {
            TrigramReaders x = halves();
            s.due("500", 500, () -> x.countOrder0(0, 0));
            s.due("499", 499, () -> x.countOrder0(1, 0));
            x.merge(0, 1);
            s.due("999", 999, () -> x.countOrder0(1, 0));
            s.due("12 * 39 * 2 + 19 + 18", 973, () -> x.countOrder1(1, 0, 0));
            x.merge(0, 1);
            s.due("1499", 999, () -> x.countOrder0(1, 0));
            s.due("order 1: 973 + 487", 999, () -> x.countOrder1(1, 0, 0));
            s.due("order 2: 947 + 474", 999, () -> x.countOrder2(1, 0, 0, 0));
            TrigramReaders y = halves();
            y.merge(1, 0);
            y.endYear();
            s.due("499 of 999", 499, () -> y.countOrder0(0, 0));
            TrigramReaders z = loaded("reader p a;reader q a;document a;train q 0;");
            z.merge(1, 0);
            Sentences.times(9, () -> z.merge(0, 1));
            s.due("10 by steps of 1", 10, () -> z.countOrder0(1, 0));
            TrigramReaders even = halves();
            even.learn(1, 2);
            even.merge(0, 1);
            s.due("500 + 518", 999, () -> even.countOrder0(1, 0));
        });
        s.test("Promise 55", "The training records of the source are added to those of the target.", () -> {
            TrigramReaders x = full();
            x.train(1, 7);
            x.merge(1, 0);
            s.due("the target", 2, () -> x.timesTrained(0, 7));
            s.due("its own record", 1, () -> x.timesTrained(0, 0));
        });
        s.test("Promise 55", "- `source`: the reader whose counts are added", () -> {
            TrigramReaders x = loaded("reader p a;reader q a;document a;document b;train p 0;train q 1;");
            x.merge(0, 1);
            s.due("a of the target", 1, () -> x.countOrder0(1, 0));
            s.due("b of the target", 1, () -> x.countOrder0(1, 1));
            s.due("b of the source", 0, () -> x.countOrder0(0, 1));
        });
        s.test("Promise 55", "The source does not change.", () -> {
            TrigramReaders x = full();
            x.merge(1, 0);
            x.merge(1, 2);
            s.due("counts", full().positiveCounts(1), () -> x.positiveCounts(1));
            s.due("record", 1, () -> x.timesTrained(1, 7));
            s.due("record of the target's document", 0, () -> x.timesTrained(1, 0));
            s.due("symbols", 40, () -> x.trainedSymbols(1));
            s.due("method", C, () -> x.escapeMethod(1));
            s.due("method of the target", A, () -> x.escapeMethod(0));
        });
        s.test("Promise 55", "Returns the number of counts of the target that are greater than 0 afterwards.", () -> {
            String text = "reader p a;reader q a;document ab;document abc;";
            s.due("none", 0, () -> loaded(text).merge(0, 1));
            s.due("none to a b ab", 3, () -> loaded(text + "train q 0;").merge(0, 1));
            s.due("a b ab to none", 3, () -> loaded(text + "train p 0;").merge(0, 1));
            s.due("the same ones", 3, () -> loaded(text + "train p 0;train q 0;").merge(0, 1));
            s.due("c, bc and abc are new", 6, () -> loaded(text + "train p 1;train q 0;").merge(0, 1));
        });
        s.test("Promise 55", ONE_OF_READERS, () -> {
            numbered((x, r) -> x.merge(r, r == 1 ? 0 : 1), 2, 4);
            numbered((x, r) -> x.merge(r == 0 ? 1 : 0, r), 2, 4);
            s.refused("a missing one twice", MISSING, TrigramReaders::new, x -> x.merge(2, 2));
        });
        s.test("Promise 55", SAME_READER, () -> {
            s.refused("the first", ILLEGAL, TrigramReaders::new, x -> x.merge(0, 0));
            s.refused("the last", ILLEGAL, CallBoundaries::full, x -> x.merge(3, 3));
        });
    }

    // ---- promises 56, 58 and 59

    private void outputs() {
        readerAndDocument(56, (x, r, d) -> x.encode(r, d));
        s.test("Promise 56", "Writes the ranks of all positions of a document into the output, as decimal numbers with a comma between two numbers.", () -> {
            TrigramReaders x = loaded("reader q a;document _;document aijst_;document " + "_".repeat(40) + ";");
            s.due("one number has no comma", 2, () -> x.encode(0, 0));
            s.written(x, "27");
            s.due("1, 9, 10, 19, 20 and 27", 15, () -> x.encode(0, 1));
            s.written(x, "1,9,10,19,20,27");
            s.due("40 numbers of 27", 119, () -> x.encode(0, 2));
            s.written(x, "27,".repeat(39) + "27");
        });
        s.test("Promise 56", "The previous output is discarded.", () -> {
            TrigramReaders x = fresh();
            x.encode(0, 0);
            x.encode(0, 1);
            s.written(x, "2,1,1,1,1,1");
            x.encode(0, 1);
            s.written(x, "2,1,1,1,1,1");
        });
        reader(58, (x, r) -> x.writeExpected(r, 1));
        s.test("Promise 58", "The text starts with no symbols.", () -> {
            TrigramReaders x = fresh();
            x.writeExpected(1, 7);
            x.writeExpected(0, 2);
            // ann expects a of no symbols, and n after a.
            s.written(x, "an");
            TrigramReaders y = loaded("reader q a;document ba;document b;train q 0;train q 1;");
            y.writeExpected(0, 2);
            s.written(y, "ba");
        });
        s.test("Promise 58", "Each further symbol is the symbol at rank 1 in the context of the symbols before.", () -> {
            TrigramReaders x = fresh();
            x.writeExpected(1, 7);
            s.written(x, "abrabra");
            TrigramReaders y = loaded("reader q a;document zyx;train q 0;");
            y.writeExpected(0, 5);
            // x, y and z are equal; nothing follows x.
            s.written(y, "xxxxx");
            y.train(0, 0);
            s.due("z is first now", 1, () -> typed(y, "z").addDocument());
            y.train(0, 1);
            y.writeExpected(0, 5);
            s.written(y, "zyxzy");
        });
        s.test("Promise 58", "The previous output is discarded.", () -> {
            TrigramReaders x = fresh();
            x.writeExpected(0, 40);
            x.writeExpected(0, 1);
            s.written(x, "a");
        });
        s.test("Promise 58", "- `length`: the number of symbols, 1 to 40", () -> {
            TrigramReaders x = fresh();
            s.due("1", 1, () -> x.writeExpected(0, 1));
            s.written(x, "a");
            s.due("40", 40, () -> x.writeExpected(0, 40));
            s.written(x, "an".repeat(20));
        });
        s.test("Promise 58", "Throws `IllegalArgumentException` if the length is out of range", () -> {
            for (int wrong : new int[] {0, -1, 41, 42, EXTREMES[0], EXTREMES[1], EXTREMES[2], EXTREMES[3]}) {
                s.refused("length " + wrong, ILLEGAL, TrigramReaders::new, x -> x.writeExpected(0, wrong));
            }
        });
        s.test("Promise 59", "- `position`: a position in the output, from 0", () -> {
            TrigramReaders x = fresh();
            x.encode(0, 0);
            s.due("the first", '1', () -> x.outputByte(0));
            s.due("the second", ',', () -> x.outputByte(1));
            s.due("the last", '1', () -> x.outputByte(23));
        });
        s.test("Promise 59", "Throws `NoSuchElementException` if the output has no such position", () -> {
            for (int length : new int[] {1, 2, 40}) {
                positions(length, () -> {
                    TrigramReaders x = fresh();
                    x.writeExpected(0, 40);
                    x.writeExpected(0, length);
                    return x;
                }, (x, at) -> x.outputByte(at));
            }
            positions(119, () -> {
                TrigramReaders x = loaded("reader q a;document " + "_".repeat(40) + ";");
                x.encode(0, 0);
                return x;
            }, (x, at) -> x.outputByte(at));
            for (int at : new int[] {-1, 0, 1, EXTREMES[0], EXTREMES[3]}) {
                s.refused("position " + at + " of nothing", NOWHERE, TrigramReaders::new, x -> x.outputByte(at));
            }
        });
    }

    // ---- promise 57

    /** An untrained reader and a decoded text. */
    private static TrigramReaders decoded(String ranks) {
        TrigramReaders x = typed(loaded("reader q a;"), ranks);
        x.decode(0);
        return x;
    }

    private void decoding() {
        reader(57, (x, r) -> x.decode(r));
        s.test("Promise 57", "The input buffer must contain 1 to 40 decimal numbers of 1 to 27 with a comma between two numbers;", () -> {
            s.written(decoded("1"), "a");
            s.written(decoded("27"), "_");
            s.written(decoded("9,10,11,19,20,21,26"), "ijkstuz");
            s.written(decoded("27,".repeat(39) + "1"), "_".repeat(39) + "a");
            for (String ranks : new String[] {"", "0", "28", "29", "30", "99", "100", "270", "1,", ",1", ",", "1,,1", "1,0", "0,1", "1,28", "1,".repeat(40) + "1",
                "27,".repeat(40) + "27", "1,".repeat(40), "4294967297", "18446744073709551617", "1" + "0".repeat(499)}) {
                s.refused("ranks " + ranks, ILLEGAL, () -> typed(fresh(), ranks), x -> x.decode(0));
            }
        });
        s.test("Promise 57", "leading zeros have no effect, and no other bytes are allowed.", () -> {
            s.written(decoded("01"), "a");
            s.written(decoded("0".repeat(498) + "27"), "_");
            s.written(decoded("003,0000000000000000000000010,01"), "cja");
            s.refused("zeros alone", ILLEGAL, () -> typed(fresh(), "000"), x -> x.decode(0));
            s.refused("zeros before 28", ILLEGAL, () -> typed(fresh(), "0028"), x -> x.decode(0));
            for (int value = 0; value < 256; value++) {
                if (value < '0' || value > '9') {
                    String sign = String.valueOf((char) value);
                    s.refused("1 and byte " + value, ILLEGAL, () -> typed(fresh(), "1" + sign), x -> x.decode(0));
                    s.refused("byte " + value + " and 1", ILLEGAL, () -> typed(fresh(), sign + "1"), x -> x.decode(0));
                }
                if ((value < '0' || value > '9') && value != ',') {
                    String sign = String.valueOf((char) value);
                    s.checks.refused("byte " + value + " between", ILLEGAL, () -> typed(fresh(), "1" + sign + "2").decode(0));
                }
            }
        });
        s.test("Promise 57", "Each number selects the symbol with this rank in the context of the symbols that were decoded before.", () -> {
            TrigramReaders x = typed(fresh(), "1,2,1,1,27,5,1,6,1,2,1,1");
            s.due("as encode writes it", 12, () -> x.decode(0));
            s.written(x, "abra_cadabra");
            // After a the second is b for ann; after ab the second is a again.
            TrigramReaders y = typed(fresh(), "1,2,2");
            y.decode(0);
            s.written(y, "aba");
        });
        s.test("Promise 57", "The previous output is discarded, and the input buffer is empty afterwards.", () -> {
            TrigramReaders x = fresh();
            x.encode(0, 0);
            typed(x, "1");
            x.decode(0);
            s.written(x, "a");
            s.due("the buffer", 0, () -> Snapshot.inputLength(x));
            typed(x, "0");
            s.checks.refused("decode", ILLEGAL, () -> x.decode(0));
            s.written(x, "a");
            s.due("the buffer of a refused call", 1, () -> Snapshot.inputLength(x));
        });
        s.test("Promise 57", "Throws `IllegalArgumentException` if the input buffer does not contain such numbers", () -> {
            for (String ranks : new String[] {"", "x", "1;2", "1 2", "1, 2", "-1", "+1", "1.0", "1\n", "year;"}) {
                s.refused("ranks '" + ranks + "'", ILLEGAL, () -> typed(fresh(), ranks), x -> x.decode(0));
                s.refused("ranks '" + ranks + "' for the other reader", ILLEGAL, () -> typed(fresh(), ranks), x -> x.decode(1));
            }
        });
    }

    // ---- promises 60 to 63

    private void slots() {
        s.test("Promise 60", "The previous content of the slot is discarded.", () -> {
            TrigramReaders x = full();
            x.save(0);
            typed(x, "reader q a;");
            x.load();
            s.due("save", 0, () -> x.save(0));
            s.due("undo", 1, () -> x.undo());
            s.due("restore", 0, () -> x.restore(0));
            s.due("readers", 1, () -> x.readerCount());
            s.due("documents", 0, () -> x.documentCount());
            s.due("counts", 0, () -> x.positiveCounts(0));
        });
        s.test("Promise 60", "- `slot`: 0 or 1", () -> {
            TrigramReaders x = fresh();
            s.due("slot 0", 1, () -> x.save(0));
            x.endYear();
            s.due("slot 1", 2, () -> x.save(1));
            s.due("slot 0 is not slot 1", 1, () -> x.restore(0));
            s.due("slot 1 is not slot 0", 2, () -> x.restore(1));
        });
        s.test("Promise 60", "Throws `IndexOutOfBoundsException` if the slot does not exist", () -> {
            for (int wrong : new int[] {-1, 2, 3, EXTREMES[0], EXTREMES[1], EXTREMES[2], EXTREMES[3]}) {
                s.refused("slot " + wrong, MISSING, TrigramReaders::new, x -> x.save(wrong));
            }
        });
        s.test("Promise 61", "The slot keeps its content.", () -> {
            TrigramReaders x = full();
            String saved = Snapshot.state(x);
            x.save(1);
            for (int i = 0; i < 3; i++) {
                x.train(0, 7);
                x.forget(1);
                x.endYear();
                x.setEscapeMethod(2, D);
                s.due("restore " + i, 1, () -> x.restore(1));
                s.due("the state " + i, 1, () -> Snapshot.state(x).equals(saved) ? 1 : 0);
            }
        });
        s.test("Promise 61", "- `slot`: 0 or 1", () -> {
            for (int slot = 0; slot < 2; slot++) {
                int number = slot;
                TrigramReaders x = fresh();
                x.save(slot);
                x.endYear();
                s.due("slot " + slot, 1, () -> x.restore(number));
                s.checks.refused("the other slot", STATE, () -> x.restore(1 - number));
            }
        });
        s.test("Promise 61", "Throws `IndexOutOfBoundsException` if the slot does not exist", () -> {
            for (int wrong : new int[] {-1, 2, 3, EXTREMES[0], EXTREMES[1], EXTREMES[2], EXTREMES[3]}) {
                s.refused("slot " + wrong, MISSING, TrigramReaders::new, x -> x.restore(wrong));
            }
        });
        s.test("Promise 61", "Throws `IllegalStateException` if the slot is empty", () -> {
            s.refused("slot 0", STATE, TrigramReaders::new, x -> x.restore(0));
            s.refused("slot 1", STATE, TrigramReaders::new, x -> x.restore(1));
            Sentences.Make one = () -> {
                TrigramReaders x = full();
                x.save(0);
                return x;
            };
            s.answered("the one that was saved", one, x -> x.restore(0));
            s.refused("the one that was not", STATE, one, x -> x.restore(1));
        });
    }

    private void undos() {
        s.test("Promise 62", "Undoes the latest remembered undoable call and removes it from the remembered calls.", () -> {
            TrigramReaders x = fresh();
            x.endYear();
            x.setEscapeMethod(0, D);
            x.undo();
            s.due("the latest is undone", A, () -> x.escapeMethod(0));
            s.due("the one before is not", 2, () -> x.year());
            s.due("one is left", 1, () -> x.undoDepth());
            x.undo();
            s.due("the one before is undone", 1, () -> x.year());
            s.due("none is left", 0, () -> x.undoDepth());
            x.endYear();
            x.undo();
            s.due("undo itself is not remembered", 0, () -> x.undoDepth());
        });
        s.test("Promise 62", "Returns the number of remembered calls that are left.", () -> {
            TrigramReaders x = fresh();
            Sentences.times(9, () -> x.endYear());
            for (int i = 7; i >= 0; i--) {
                s.due("left", i, () -> x.undo());
            }
        });
        s.test("Promise 62", "Throws `IllegalStateException` if no call is remembered", () -> {
            s.refused("nothing was called", STATE, TrigramReaders::new, x -> x.undo());
            s.refused("all was undone", STATE, () -> {
                TrigramReaders x = fresh();
                x.endYear();
                x.undo();
                return x;
            }, x -> x.undo());
            s.refused("eight of ten were undone", STATE, () -> {
                TrigramReaders x = fresh();
                Sentences.times(10, () -> x.endYear());
                Sentences.times(8, () -> x.undo());
                return x;
            }, x -> x.undo());
            s.refused("what was called is not undoable", STATE, () -> {
                TrigramReaders x = fresh();
                x.save(0);
                x.encode(0, 0);
                return x;
            }, x -> x.undo());
        });
        s.test("Promise 63", "Returns the number of remembered undoable calls, at most 8.", () -> {
            TrigramReaders x = fresh();
            for (int i = 0; i <= 20; i++) {
                int due = Math.min(i, 8);
                s.due("after " + i, due, () -> x.undoDepth());
                x.endYear();
            }
            x.undo();
            s.due("after an undo", 7, () -> x.undoDepth());
            x.load();
            s.due("after a load", 8, () -> x.undoDepth());
        });
    }
}
