/** A test for each sentence of the terms, sections 1 to 7, that names a boundary case. */
final class TermBoundaries {
    private static final int NONE = TrigramReaders.NONE;
    private static final int A = TrigramReaders.METHOD_A, C = TrigramReaders.METHOD_C, D = TrigramReaders.METHOD_D;
    private static final Class<IndexOutOfBoundsException> MISSING = IndexOutOfBoundsException.class;
    private static final Class<IllegalArgumentException> ILLEGAL = IllegalArgumentException.class;
    private static final Class<IllegalStateException> STATE = IllegalStateException.class;
    private static final int N = 13, X = 23, Y = 24, Z = 25, UNDERSCORE = 26;

    static final String FORTY = "abcdefghijklmnopqrstuvwxyz_abcdefghijklm";
    static final String FORTY_A = "a".repeat(40);
    static final String FOUR_READERS = "reader a a;reader b c;reader cc d;reader dddd a;";
    static final String EIGHT_DOCUMENTS = "document aa;document b;document cab;document _;document aba;document z;document aa;"
        + "document " + FORTY + ";";
    static final String FULL = FOUR_READERS + EIGHT_DOCUMENTS + "train a 0;train b 7;year;train dddd 2;";

    private final Sentences s;

    TermBoundaries(Sentences sentences) {
        s = sentences;
    }

    void all() {
        s.test("What it is", "An object is used for at most 512 calls after it has been made;", this::lastCall);
        symbolsAndDocuments();
        readersAndCounts();
        trainingAndYears();
        contexts();
        rankings();
        probabilities();
        escapeMethods();
        reading();
        tokens();
        parsing();
        errorCodes();
        states();
        undoing();
        exceptions();
    }

    private static TrigramReaders fresh() {
        return new TrigramReaders();
    }

    private static TrigramReaders loaded(String text) {
        return Sentences.loaded(text);
    }

    private static TrigramReaders typed(TrigramReaders x, String text) {
        return Sentences.typed(x, text);
    }

    private void lastCall() {
        TrigramReaders x = fresh();
        for (int i = 1; i <= 512; i++) {
            int year = 1 + i;
            s.due("call " + i, year, () -> x.endYear());
        }
        TrigramReaders y = fresh();
        for (int i = 1; i <= 512; i++) {
            int document = i % 2;
            s.due("call " + i, NONE, () -> y.trainingsNeeded(0, document, 1));
        }
    }

    // ---- section 1

    private void symbolsAndDocuments() {
        s.test("Section 1", "The alphabet has 27 symbols.", () -> {
            s.due("symbol 26", 0, () -> fresh().countOrder0(0, 26));
            s.refused("symbol 27", ILLEGAL, TrigramReaders::new, x -> x.countOrder0(0, 27));
            s.due("the last of the ranking", 26, () -> loaded("reader a a;").symbolAtRank(0, NONE, NONE, 27));
        });
        s.test("Section 1", "The symbols 0 to 25 are the letters a to z.", () -> {
            TrigramReaders x = loaded("document abcdefghijklmnopqrstuvwxyz;");
            for (int i = 0; i < 26; i++) {
                int symbol = i;
                s.due("symbol " + i, i, () -> x.documentSymbol(0, symbol));
            }
        });
        s.test("Section 1", "The symbol 26 is the underscore.", () -> {
            s.due("_", 26, () -> loaded("document _;").documentSymbol(0, 0));
            TrigramReaders x = typed(loaded("reader a a;"), "27");
            x.decode(0);
            s.written(x, "_");
        });
        s.test("Section 1", "A document is a sequence of 1 to 40 symbols.", () -> {
            s.refused("no symbol", ILLEGAL, TrigramReaders::new, x -> x.addDocument());
            s.due("1", 1, () -> typed(fresh(), "q").addDocument() - 1);
            s.due("40", 2, () -> typed(fresh(), FORTY).addDocument());
            s.refused("41", ILLEGAL, () -> typed(fresh(), FORTY + "n"), x -> x.addDocument());
            s.due("1 in a text", 1, () -> s.good("document q;").documentLength(0));
            s.due("40 in a text", 40, () -> s.good("document " + FORTY + ";").documentLength(0));
            s.error("document " + FORTY + "n;", 2, 9);
            s.error("document ;", 1, 9);
        });
        s.test("Section 1", "There are at most 8 documents, numbered from 0 in the order in which they were added.", () -> {
            TrigramReaders x = loaded("document a;document ab;");
            for (int i = 2; i < 8; i++) {
                int number = i;
                typed(x, "abcdefgh".substring(0, i + 1));
                s.due("document " + i, i, () -> x.addDocument());
                s.due("length of " + i, i + 1, () -> x.documentLength(number));
            }
            s.due("documents", 8, () -> x.documentCount());
            typed(x, "a");
            s.checks.refused("a ninth", STATE, () -> x.addDocument());
            s.due("length of 0", 1, () -> x.documentLength(0));
        });
        s.test("Section 1", "Each document stores the year in which it was added.", () -> {
            TrigramReaders x = loaded("document a;year;year;document b;year;");
            typed(x, "c").addDocument();
            x.endYear();
            s.due("before a year", 0, () -> x.documentYear(0));
            s.due("after two", 2, () -> x.documentYear(1));
            s.due("after three", 3, () -> x.documentYear(2));
        });
        s.test("Section 1", "The current year is 0 at first.", () -> {
            s.due("year of the empty text", 0, () -> loaded("").year());
            s.due("year of a text", 0, () -> loaded("reader a a;document a;").year());
        });
    }

    // ---- section 2

    private void readersAndCounts() {
        s.test("Section 2", "There are at most 4 readers, numbered from 0.", () -> {
            TrigramReaders x = loaded("");
            for (int i = 0; i < 4; i++) {
                int number = i;
                typed(x, "wxyz".substring(i));
                s.due("reader " + i, i, () -> x.addReader(A));
                s.due("name of " + i, "wxyz".charAt(i), () -> x.readerNameByte(number, 0));
            }
            s.due("readers", 4, () -> x.readerCount());
            typed(x, "v");
            s.checks.refused("a fifth", STATE, () -> x.addReader(A));
        });
        s.test("Section 2", "A reader has a name of 1 to 4 letters, an escape method (A, C or D) and three tables of counts.", () -> {
            s.refused("no letter", ILLEGAL, TrigramReaders::new, x -> x.addReader(A));
            s.due("1 letter", 2, () -> typed(fresh(), "q").addReader(A));
            s.due("4 letters", 2, () -> typed(fresh(), "azaz").addReader(D));
            s.refused("5 letters", ILLEGAL, () -> typed(fresh(), "azaza"), x -> x.addReader(A));
            s.refused("method -1", ILLEGAL, () -> typed(fresh(), "q"), x -> x.addReader(-1));
            s.refused("method 3", ILLEGAL, () -> typed(fresh(), "q"), x -> x.addReader(3));
        });
        s.test("Section 2", "No two readers have the same name.", () -> {
            s.refused("ann again", STATE, () -> typed(fresh(), "ann"), x -> x.addReader(A));
            s.refused("bob again", STATE, () -> typed(fresh(), "bob"), x -> x.addReader(D));
            s.due("the start of a name", 2, () -> typed(fresh(), "an").addReader(A));
            s.due("a longer name", 2, () -> typed(fresh(), "anna").addReader(A));
            s.error("reader a a;reader b a;reader c a;reader b a;", 3, 40);
        });
        s.test("Section 2", "The order-1 table stores one count for each pair of a preceding symbol and a symbol.", () -> {
            int[][] pairs = {{0, 0}, {0, 26}, {26, 0}, {26, 26}, {1, 0}, {0, 1}};
            String[] texts = {"aa", "a_", "_a", "__", "ba", "ab"};
            for (int i = 0; i < pairs.length; i++) {
                TrigramReaders x = loaded("reader e a;document " + texts[i] + ";train e 0;");
                for (int[] pair : pairs) {
                    s.due(pair[0] + ", " + pair[1] + " in " + texts[i], pair == pairs[i] ? 1 : 0, () -> x.countOrder1(0, pair[0], pair[1]));
                }
            }
        });
        s.test("Section 2", "All counts of a new reader are 0.", () -> {
            TrigramReaders x = fresh();
            typed(x, "eve").addReader(A);
            x.train(2, 0);
            x.train(2, 1);
            x.undo();
            x.undo();
            x.undo();
            typed(x, "eva").addReader(A);
            s.due("of a place used before", 0, () -> x.positiveCounts(2));
            s.due("of a place used before", 0, () -> x.countOrder0(2, 0));
            s.due("of a text", 0, () -> loaded("reader a a;document a;reader b a;train a 0;").positiveCounts(1));
            TrigramReaders y = typed(fresh(), "reader ann a;document a;");
            y.load();
            s.due("of a text that names a reader of the state", 0, () -> y.positiveCounts(0));
        });
        s.test("Section 2", "A count is never greater than 999.", () -> {
            TrigramReaders x = loaded("reader a a;reader b a;document " + FORTY_A + ";" + "train a 0;".repeat(24));
            s.due("960 by the text", 960, () -> x.countOrder0(0, 0));
            s.due("999 by the text", 999, () -> loaded("reader a a;document " + FORTY_A + ";" + "train a 0;".repeat(25)).countOrder0(0, 0));
            x.merge(0, 1);
            x.train(0, 0);
            s.due("by train", 999, () -> x.countOrder0(0, 0));
            x.learn(1, 0);
            s.due("by learn", 999, () -> x.countOrder0(1, 0));
            x.merge(0, 1);
            s.due("order 0 by merge", 999, () -> x.countOrder0(1, 0));
            s.due("order 1 by merge", 999, () -> x.countOrder1(1, 0, 0));
            s.due("order 2 by merge", 999, () -> x.countOrder2(1, 0, 0, 0));
        });
    }

    private void trainingAndYears() {
        s.test("Section 2", "The symbols of the document are processed from the first one to the last one.", () -> {
            TrigramReaders x = loaded("reader e a;document cab;train e 0;");
            s.due("the first one", 1, () -> x.countOrder0(0, 2));
            s.due("the last one", 1, () -> x.countOrder0(0, 1));
            s.due("the last pair", 1, () -> x.countOrder1(0, 0, 1));
            s.due("the first of the pairs", 1, () -> x.countOrder1(0, 2, 0));
            s.due("all of them", 3 + 2 + 1, () -> x.positiveCounts(0));
            s.due("a, then b behind a", 1 + 2, () -> loaded("reader e a;document ab;").learn(0, 0));
            s.due("b, then a behind b", 2 + 2, () -> loaded("reader e a;document ba;").learn(0, 0));
        });
        s.test("Section 2", "If a symbol precedes it in the document, its order-1 count for that preceding symbol is incremented.", () -> {
            s.due("nothing precedes one symbol", 1, () -> loaded("reader e a;document a;train e 0;").positiveCounts(0));
            TrigramReaders x = loaded("reader e a;document ab;document cd;train e 0;train e 1;");
            s.due("ab", 1, () -> x.countOrder1(0, 0, 1));
            s.due("cd", 1, () -> x.countOrder1(0, 2, 3));
            s.due("bc stands in no document", 0, () -> x.countOrder1(0, 1, 2));
            s.due("nothing precedes c", 0, () -> x.countOrder1(0, 0, 2));
            s.due("counts", 4 + 2, () -> x.positiveCounts(0));
        });
        s.test("Section 2", "If two symbols precede it in the document, its order-2 count for those two symbols is incremented.", () -> {
            s.due("one alone precedes b", 0, () -> loaded("reader e a;document ab;train e 0;").order2Contexts(0));
            TrigramReaders x = loaded("reader e a;document abc;train e 0;");
            s.due("abc", 1, () -> x.countOrder2(0, 0, 1, 2));
            s.due("pairs", 1, () -> x.order2Contexts(0));
            s.due("no wrong order", 0, () -> x.countOrder2(0, 1, 0, 2));
        });
        s.test("Section 2", "A count of 999 is not incremented.", () -> {
            TrigramReaders x = loaded("reader e a;document " + FORTY_A + ";" + "train e 0;".repeat(25));
            s.due("999", 999, () -> x.countOrder0(0, 0));
            x.train(0, 0);
            s.due("still 999", 999, () -> x.countOrder0(0, 0));
            s.due("25 and 1 times 39", 999, () -> x.countOrder1(0, 0, 0));
            s.due("26 times 38 is below", 988, () -> x.countOrder2(0, 0, 0, 0));
            x.learn(0, 0);
            x.learn(0, 0);
            s.due("all are full", 999, () -> x.countOrder2(0, 0, 0, 0));
            s.due("the symbols are counted all the same", 28 * 40, () -> x.trainedSymbols(0));
        });
        s.test("Section 2", "When a year ends, every count of every reader is divided by 2 and rounded down, and the current year is incremented.", () -> {
            TrigramReaders x = loaded("reader a a;reader b a;reader c a;reader d a;document aaa;document aa;document " + FORTY_A
                + ";train a 0;train b 1;train d 2;");
            s.due("the new year", 1, () -> x.endYear());
            s.due("3 to 1", 1, () -> x.countOrder0(0, 0));
            s.due("2 to 1", 1, () -> x.countOrder1(0, 0, 0));
            s.due("1 to 0", 0, () -> x.countOrder2(0, 0, 0, 0));
            s.due("2 to 1", 1, () -> x.countOrder0(1, 0));
            s.due("1 to 0", 0, () -> x.countOrder1(1, 0, 0));
            s.due("0 to 0", 0, () -> x.countOrder0(2, 0));
            s.due("40 to 20", 20, () -> x.countOrder0(3, 0));
            s.due("39 to 19", 19, () -> x.countOrder1(3, 0, 0));
            s.due("38 to 19", 19, () -> x.countOrder2(3, 0, 0, 0));
            s.due("the next year", 2, () -> x.endYear());
            s.due("nothing is left", 0, () -> x.positiveCounts(0));
            s.due("19 to 9", 9, () -> x.countOrder1(3, 0, 0));
            TrigramReaders y = loaded("reader a a;document " + FORTY_A + ";" + "train a 0;".repeat(25) + "year;");
            s.due("999 to 499", 499, () -> y.countOrder0(0, 0));
            s.due("year of the text", 1, () -> y.year());
        });
    }

    // ---- section 3

    /** After ab stands c once, after b stands d five times, and e is the most frequent one. */
    private static TrigramReaders layered() {
        return loaded("reader q a;document abc;document bdbdbdbdbd;document eeeeeeeee;train q 0;train q 1;train q 2;");
    }

    private void contexts() {
        s.test("Section 3", "Each of them is a symbol or NONE.", () -> {
            for (int[] c : new int[][] {{NONE, NONE}, {NONE, 0}, {NONE, 26}, {0, 0}, {26, 26}, {0, 26}, {26, 0}}) {
                s.answered(c[0] + ", " + c[1], TrigramReaders::new, x -> x.contextTotal(0, c[0], c[1]));
            }
            for (int wrong : new int[] {-2, 27, Integer.MIN_VALUE, Integer.MAX_VALUE}) {
                s.refused(wrong + " before", ILLEGAL, TrigramReaders::new, x -> x.contextTotal(0, wrong, 0));
                s.refused(wrong + " previous", ILLEGAL, TrigramReaders::new, x -> x.contextTotal(0, 0, wrong));
                s.refused(wrong + " alone", ILLEGAL, TrigramReaders::new, x -> x.contextTotal(0, NONE, wrong));
                s.refused(wrong + " twice", ILLEGAL, TrigramReaders::new, x -> x.contextTotal(0, wrong, wrong));
            }
        });
        s.test("Section 3", "If the previous symbol is NONE, the symbol before it must be NONE, too;", () -> {
            s.answered("none of them", TrigramReaders::new, x -> x.contextSymbols(0, NONE, NONE));
            for (int wrong : new int[] {0, 13, 26, -2, 27}) {
                s.refused(wrong + " before NONE", ILLEGAL, TrigramReaders::new, x -> x.contextSymbols(0, wrong, NONE));
            }
        });
        s.test("Section 3", "The orders of a context are: order 2 if both symbols are given, then order 1 if the previous symbol is given, then order 0.", () -> {
            TrigramReaders x = loaded("reader q a;document abc;train q 0;");
            s.due("both", 2, () -> x.foundOrder(0, 0, 1, 2));
            s.due("the previous one", 1, () -> x.foundOrder(0, NONE, 1, 2));
            s.due("none", 0, () -> x.foundOrder(0, NONE, NONE, 2));
            s.due("order 1 behind order 2", 1, () -> x.foundOrder(0, Z, 1, 2));
            s.due("order 0 behind both", 0, () -> x.foundOrder(0, 1, Z, 2));
        });
        s.test("Section 3", "They are always visited in this sequence.", () -> {
            TrigramReaders x = layered();
            // Order 2: c. Order 1: d. Order 0: e 9, b 6, d 5, a 1, c 1.
            s.ranking(x, 0, 0, 1, "cdebafghijklmnopqrstuvwxyz_");
            s.ranking(x, 0, NONE, 1, "dcebaf");
            s.ranking(x, 0, NONE, NONE, "ebdacf");
        });
        s.test("Section 3", "The first order of a context is the first one of them.", () -> {
            TrigramReaders x = layered();
            s.due("order 2", 1, () -> x.contextTotal(0, 0, 1));
            s.due("order 1", 6, () -> x.contextTotal(0, NONE, 1));
            s.due("order 0", 22, () -> x.contextTotal(0, NONE, NONE));
            s.due("order 2, where nothing occurs", 0, () -> x.contextTotal(0, 2, 1));
        });
        s.test("Section 3", "A symbol occurs at an order of a context if its count in the table of this order for this context is greater than 0.", () -> {
            TrigramReaders x = loaded("reader q a;document abc;train q 0;");
            s.due("a count of 1", 1, () -> x.contextSymbols(0, 0, 1));
            s.due("a count of 1", 2, () -> x.foundOrder(0, 0, 1, 2));
            x.endYear();
            s.due("a count of 0", 0, () -> x.contextSymbols(0, 0, 1));
            s.due("a count of 0", -1, () -> x.foundOrder(0, 0, 1, 2));
            s.due("a count of 0", 0, () -> x.contextSymbols(0, NONE, NONE));
        });
    }

    private void rankings() {
        s.test("Section 3", "The ranking of a reader in a context is a sequence of all 27 symbols.", () -> {
            TrigramReaders x = layered();
            for (int[] c : new int[][] {{NONE, NONE}, {NONE, 1}, {0, 1}, {26, 26}, {3, 1}}) {
                int met = 0;
                for (int rank = 1; rank <= 27; rank++) {
                    met |= 1 << x.symbolAtRank(0, c[0], c[1], rank);
                }
                int all = met;
                s.due("each symbol after " + c[0] + ", " + c[1], (1 << 27) - 1, () -> all);
            }
        });
        s.test("Section 3", "It starts empty.", () -> {
            TrigramReaders x = layered();
            s.due("c after ab", 1, () -> x.rank(0, 0, 1, 2));
            s.ranking(x, 0, NONE, NONE, "ebdacf");
            s.due("c after ab", 1, () -> x.rank(0, 0, 1, 2));
            s.ranking(x, 0, NONE, 1, "dcebaf");
        });
        s.test("Section 3", "At each order of the context, the symbols that occur at this order and are not yet in the ranking are appended;", () -> {
            // a occurs at all orders, b at the orders 1 and 0, c at order 0.
            TrigramReaders x = loaded("reader q a;document yza;document zb;document zbc;train q 0;train q 1;train q 2;");
            s.ranking(x, 0, Y, Z, "abzcydefghijklmnopqrstuvwx_");
        });
        s.test("Section 3", "a symbol with a greater count comes first, and of two symbols with equal counts the one with the smaller number comes first.", () -> {
            TrigramReaders x = loaded("reader q a;document opy;document opx;document opz;"
                + "train q 0;train q 0;train q 1;train q 1;train q 2;train q 2;train q 2;");
            s.ranking(x, 0, 14, 15, "zxyopabcdefghijklmnqrstuvw_");
            s.ranking(x, 0, NONE, 15, "zxyopa");
            s.ranking(x, 0, NONE, NONE, "opzxya");
        });
        s.test("Section 3", "After order 0, all symbols that are not yet in the ranking are appended by ascending number.", () -> {
            s.ranking(loaded("reader q a;"), 0, NONE, NONE, "abcdefghijklmnopqrstuvwxyz_");
            s.ranking(loaded("reader q a;document bcdefghijklmnopqrstuvwxyz_;train q 0;"), 0, NONE, NONE, "bcdefghijklmnopqrstuvwxyz_a");
            s.ranking(loaded("reader q a;document _zyxwvutsrqponmlkjihgfedcba;train q 0;"), 0, NONE, NONE, "abcdefghijklmnopqrstuvwxyz_");
            s.ranking(loaded("reader q a;document m;train q 0;"), 0, 12, 12, "mabcdefghijklnopqrstuvwxyz_");
        });
        s.test("Section 3", "the first position is 1.", () -> {
            TrigramReaders x = loaded("reader q a;document a;");
            s.due("rank", 1, () -> x.rank(0, NONE, NONE, 0));
            s.due("symbolAtRank", 0, () -> x.symbolAtRank(0, NONE, NONE, 1));
            s.due("rankAt", 1, () -> x.rankAt(0, 0, 0));
            s.refused("rank 0", ILLEGAL, () -> loaded("reader q a;"), y -> y.symbolAtRank(0, NONE, NONE, 0));
        });
        s.test("Section 3", "The found order of a symbol is the first order of the context at which it occurs.", () -> {
            TrigramReaders x = loaded("reader q a;document yza;document zb;train q 0;train q 1;");
            s.due("at all three", 2, () -> x.foundOrder(0, Y, Z, 0));
            s.due("at two", 1, () -> x.foundOrder(0, Y, Z, 1));
            s.due("at one", 0, () -> x.foundOrder(0, Y, Z, Y));
        });
        s.test("Section 3", "It is -1 if the symbol occurs at no order of the context.", () -> {
            TrigramReaders x = loaded("reader q a;document yza;train q 0;");
            s.due("order 2 and below", -1, () -> x.foundOrder(0, Y, Z, UNDERSCORE));
            s.due("order 1 and below", -1, () -> x.foundOrder(0, NONE, Z, 1));
            s.due("order 0", -1, () -> x.foundOrder(0, NONE, NONE, X));
            s.due("a reader without counts", -1, () -> loaded("reader q a;").foundOrder(0, 0, 0, 0));
        });
    }

    // ---- section 4

    private void probabilities() {
        s.test("Section 4", "A set of excluded symbols is empty at first.", () -> {
            TrigramReaders x = fresh();
            s.chance(x, 0, 1, 0, 2, 1, 644);
            // What the question before excluded is not excluded now.
            s.chance(x, 0, NONE, NONE, N, 2, 11);
            s.chance(x, 0, 1, 0, N, 1, 2);
        });
        s.test("Section 4", "Let n be the sum of the counts at this order of all symbols that occur there and are not excluded, and let d be the number of these symbols.", () -> {
            // ann after ba: n once; then of n and b only b; then of a 5, b 2, n 2, r 1 only a and r: 1/2 * 1/2 * 5/7.
            s.chance(fresh(), 0, 1, 0, 0, 5, 28);
            TrigramReaders x = fresh();
            x.setEscapeMethod(0, C);
            // 1/2 * 1/2 * 5/(6 + 2)
            s.chance(x, 0, 1, 0, 0, 5, 32);
        });
        s.test("Section 4", "If d is 0, the order is skipped and contributes no factor.", () -> {
            TrigramReaders x = fresh();
            s.chance(x, 0, Z, Z, 0, 5, 11);
            s.due("nothing occurs after zz and z", 0, () -> x.escapes(0, Z, Z, 0));
            s.chance(x, 0, Z, 0, N, 1, 2);
            s.due("nothing occurs after za", 0, () -> x.escapes(0, Z, 0, N));
            // After an and after n only a occurs, so order 1 is skipped: 1/3 * 2/6.
            s.chance(x, 0, 0, N, 1, 1, 9);
            s.due("all that occurs after n is excluded", 1, () -> x.escapes(0, 0, N, 1));
            TrigramReaders y = loaded("reader a a;reader c c;reader d d;");
            for (int reader = 0; reader < 3; reader++) {
                int number = reader;
                s.chance(y, reader, 0, 0, 0, 1, 27);
                s.due("nothing occurs", 0, () -> y.escapes(number, 0, 0, 0));
            }
        });
        s.test("Section 4", "If the symbol is one of them, let c be its count: the order contributes the symbol factor, and no further order is visited.", () -> {
            // a after an occurs at the orders 1 and 0, too.
            s.chance(fresh(), 0, 0, N, 0, 2, 3);
            s.due("no escape", 0, () -> fresh().escapes(0, 0, N, 0));
        });
        s.test("Section 4", "If the symbol occurs at no order of the context, the last factor is 1 / r, where r is the number of symbols that are not excluded after order 0.", () -> {
            s.chance(loaded("reader q a;"), 0, NONE, NONE, 26, 1, 27);
            // 26 symbols are known, so that r is 1: the last factor is 1.
            String all = "document bcdefghijklmnopqrstuvwxyz_;train a 0;train c 0;train d 0;";
            TrigramReaders x = loaded("reader a a;reader c c;reader d d;" + all);
            s.chance(x, 0, NONE, NONE, 0, 1, 27);
            s.chance(x, 1, NONE, NONE, 0, 1, 2);
            s.chance(x, 2, NONE, NONE, 0, 1, 2);
            // One symbol is known: 1/2 * 1/26.
            s.chance(loaded("reader q a;document z;train q 0;"), 0, NONE, NONE, 0, 1, 52);
            // The excluded ones of all orders count: ann after ba has n, b, a and r.
            s.chance(fresh(), 0, 1, 0, Z, 1, 2 * 2 * 7 * 23);
        });
        s.test("Section 4", "The code length of a symbol is the smallest integer k, at least 0, for which the probability multiplied by 2 to the power k is at least 1.", this::codeLengths);
    }

    private void codeLengths() {
        // Method A: k symbols of count 1 have the probability 1 / (k + 1) each.
        int[] due = {0, 1, 2, 2, 3, 3, 3, 3, 4, 4, 4, 4, 4, 4, 4, 4, 5, 5, 5, 5, 5, 5, 5, 5, 5, 5};
        for (int k = 1; k <= 25; k++) {
            String text = "reader q a;document " + FORTY.substring(0, k) + ";train q 0;";
            s.due("1/" + (k + 1), due[k], () -> loaded(text).codeLength(0, NONE, NONE, 0));
        }
        TrigramReaders x = fullCount();
        s.due("999/1000", 1, () -> x.codeLength(0, NONE, NONE, 0));
        s.due("1/26000", 15, () -> x.codeLength(0, NONE, NONE, 1));
        s.due("1/51948", 16, () -> x.codeLength(2, NONE, NONE, 1));
        s.due("2/5", 2, () -> loaded("reader q a;document aabb;train q 0;").codeLength(0, NONE, NONE, 0));
        s.due("4/6", 1, () -> loaded("reader q a;document aaaab;train q 0;").codeLength(0, NONE, NONE, 0));
        TrigramReaders y = saturated();
        // Method D: each of three orders has the escape factor 1/1998, and 3 symbols are left.
        s.due("escapes", 3, () -> y.escapes(0, X, Y, 21));
        s.chance(y, 0, X, Y, 21, 1, 3L * 1998 * 1998 * 1998);
        s.due("between 2 to the power 34 and 35", 35, () -> y.codeLength(0, X, Y, 21));
    }

    /** Readers of the methods A, C and D that have seen a 999 times, and nothing else. */
    private static TrigramReaders fullCount() {
        TrigramReaders x = loaded("reader a a;reader c c;reader d d;document a;document " + FORTY_A + ";");
        for (int reader = 0; reader < 3; reader++) {
            for (int i = 0; i < 28; i++) {
                x.train(reader, 1);
            }
        }
        return x;
    }

    /** All counts of the first reader are 999: a to g after xy, h to n after y, and ten others. */
    private static TrigramReaders saturated() {
        TrigramReaders x = loaded("reader p d;reader q d;document xyaxybxycxydxyexyfxyg;document zyhzyizyjzykzylzymzyn;"
            + "document opqrstu;train p 0;train p 1;train p 2;train q 0;");
        for (int i = 0; i < 20; i++) {
            x.merge(i % 2, 1 - i % 2);
        }
        return x;
    }

    private void escapeMethods() {
        TrigramReaders x = fullCount();
        s.test("Section 4", "With the escape method A the symbol factor is c / (n + 1), and the escape factor is 1 / (n + 1).", () -> {
            TrigramReaders y = loaded("reader q a;document a;document ab;train q 0;");
            s.chance(y, 0, NONE, NONE, 0, 1, 2);
            s.chance(y, 0, NONE, NONE, 1, 1, 52);
            s.chance(x, 0, NONE, NONE, 0, 999, 1000);
            s.chance(x, 0, NONE, NONE, 1, 1, 26000);
            s.chance(x, 0, 0, 0, 1, 1, 26000);
        });
        s.test("Section 4", "With the method C they are c / (n + d) and d / (n + d).", () -> {
            TrigramReaders y = loaded("reader q c;document aab;train q 0;");
            s.chance(y, 0, NONE, NONE, 0, 2, 5);
            s.chance(y, 0, NONE, NONE, 1, 1, 5);
            s.chance(y, 0, NONE, NONE, 2, 2, 125);
            s.chance(x, 1, NONE, NONE, 0, 999, 1000);
            s.chance(x, 1, NONE, NONE, 1, 1, 26000);
        });
        s.test("Section 4", "With the method D they are (2c - 1) / (2n) and d / (2n).", () -> {
            TrigramReaders y = loaded("reader q d;document aaab;train q 0;");
            s.chance(y, 0, NONE, NONE, 0, 5, 8);
            s.chance(y, 0, NONE, NONE, 1, 1, 8);
            s.chance(y, 0, NONE, NONE, 2, 1, 100);
            s.chance(x, 2, NONE, NONE, 0, 1997, 1998);
            s.chance(x, 2, NONE, NONE, 1, 1, 51948);
        });
    }

    // ---- section 5

    private void reading() {
        s.test("Section 5", "The context of a position in a document consists of the two symbols that precede it in the document;", () -> {
            TrigramReaders x = fresh();
            for (int i = 2; i < 12; i++) {
                int at = i;
                s.due("position " + i, x.rank(0, x.documentSymbol(0, i - 2), x.documentSymbol(0, i - 1), x.documentSymbol(0, i)),
                    () -> x.rankAt(0, 0, at));
            }
        });
        s.test("Section 5", "a symbol that does not exist is NONE.", () -> {
            // ann: n is the third without a context, but the first after a; a is no context of the first position.
            TrigramReaders x = typed(fresh(), "n");
            x.addDocument();
            s.due("the first position", 3, () -> x.rankAt(0, 2, 0));
            // b is the second after a, but the first after aa; a is no symbol before the first one.
            TrigramReaders y = loaded("reader q a;document aab;document ab;train q 0;");
            s.due("the second position", 2, () -> y.rankAt(0, 1, 1));
            s.due("the third position", 1, () -> y.rankAt(0, 0, 2));
        });
        s.test("Section 5", "Reading does not change the counts, unless the description of a method says that the reader learns.", () -> {
            TrigramReaders x = fresh();
            x.totalGuesses(0, 0);
            x.adaptiveGuesses(0, 0);
            x.totalBits(0, 0);
            x.encode(0, 1);
            TrigramReaders twin = fresh();
            twin.encode(0, 1);
            s.same("reading", x, twin);
            TrigramReaders y = fresh();
            y.learn(0, 1);
            s.due("learning", 8, () -> y.countOrder0(0, 0));
        });
    }

    // ---- section 6

    private void tokens() {
        s.test("Section 6", "The input buffer holds at most 500 bytes.", () -> {
            TrigramReaders x = typed(fresh(), "year;".repeat(100));
            s.checks.refused("one more", STATE, () -> x.appendInput(0, 0, 0, 0, 0));
            s.due("500 bytes", 500, () -> x.truncateInput(500));
            x.load();
            s.due("all of them are read", 100, () -> x.year());
        });
        s.test("Section 6", "The sequence may be empty.", () -> {
            for (String text : new String[] {"", " ", "\n", " \n \n ", " ".repeat(500)}) {
                TrigramReaders x = s.good(text);
                s.due("no readers", 0, () -> x.readerCount());
                s.due("no documents", 0, () -> x.documentCount());
                s.due("year 0", 0, () -> x.year());
            }
        });
        s.test("Section 6", "A word is a maximal run of the letters a to z and underscores.", () -> {
            s.error("yearyear;", 1, 0);
            s.error("year_;", 1, 0);
            s.error("_year;", 1, 0);
            s.error("readera a;", 1, 0);
            s.error("reader ac;", 1, 9);
            s.due("a run of both", 5, () -> s.good("document __az_;").documentLength(0));
            s.error("document a b;", 1, 11);
            s.good("reader a a;document b;train a0;");
        });
        s.test("Section 6", "A number is a maximal run of decimal digits of any length;", () -> {
            String start = "reader a a;document b;document c;train a ";
            s.due("1 digit", 1, () -> s.good(start + "1;").timesTrained(0, 1));
            s.due("458 digits", 1, () -> s.good(start + "0".repeat(457) + "1;").timesTrained(0, 1));
            s.due("500 bytes in all", 500, () -> (start + "0".repeat(457) + "1;").length());
            for (String number : new String[] {"10", "99", "4294967296", "4294967297", "18446744073709551617", "1" + "0".repeat(400)}) {
                s.error(start + number + ";", 2, start.length());
            }
            s.error(start + "0 1;", 1, start.length() + 2);
            s.error(start + "1a;", 1, start.length() + 1);
        });
        s.test("Section 6", "leading zeros have no effect.", () -> {
            String start = "reader a a;" + EIGHT_DOCUMENTS + "train a ";
            s.due("00", 1, () -> s.good(start + "00;").timesTrained(0, 0));
            s.due("007", 1, () -> s.good(start + "007;").timesTrained(0, 7));
            s.error(start + "008;", 2, start.length());
            s.error(start + "010;", 2, start.length());
        });
        s.test("Section 6", "Every other byte, except the space (32) and the line feed (10), is a token of its own.", () -> {
            for (int value = 0; value < 256; value++) {
                String sign = String.valueOf((char) value);
                String text = "document a" + sign + ";";
                if (sign.matches("[a-z_]")) {
                    s.due("byte " + value, 2, () -> s.good(text).documentLength(0));
                } else if (value == 32 || value == 10) {
                    s.due("byte " + value, 1, () -> s.good(text).documentLength(0));
                } else {
                    s.error(text, 1, value == ';' ? 11 : 10);
                }
            }
            s.error("year;;;", 1, 5);
        });
        s.test("Section 6", "Spaces and line feeds only separate tokens.", () -> {
            TrigramReaders x = s.good("\n\n reader  a\n\nd ;\n document\na_b ;  train \n a  0 ; year \n ; ");
            s.due("reader", D, () -> x.escapeMethod(0));
            s.due("document", 3, () -> x.documentLength(0));
            s.due("train", 1, () -> x.timesTrained(0, 0));
            s.due("year", 1, () -> x.year());
            s.good("reader a a;document b;train a 0;year;");
            s.error("ye ar;", 1, 0);
            s.error("ye\nar;", 1, 0);
            s.error("reader aa;", 1, 9);
        });
    }

    private void parsing() {
        s.test("Section 6", "The parser reads the tokens from left to right and stops at the first token that has an error.", () -> {
            s.error("train ann 9;", 4, 6);
            s.error("reader abcde b;?", 2, 7);
            s.error("year;reader a a;reader a a;train x 0;", 3, 23);
            s.error("document a;?", 1, 11);
            TrigramReaders x = typed(fresh(), "year;reader q a;document q;?");
            s.checks.refused("load", ILLEGAL, () -> x.load());
            s.due("nothing of what stands before is kept", 1, () -> x.year());
            s.due("nothing of what stands before is kept", 2, () -> x.readerCount());
        });
        s.test("Section 6", "If that token has several errors, the smallest error code applies.", () -> {
            s.error("reader 12345 a;", 1, 7);
            s.error("reader a a;train ;", 1, 17);
            s.error("reader a a;train 0 0;", 1, 17);
            s.error("reader a a;train a a;", 1, 19);
            s.error("document 1;", 1, 9);
            s.error(FOUR_READERS + "year reader;", 1, FOUR_READERS.length() + 5);
            s.error(EIGHT_DOCUMENTS + "year document;", 1, EIGHT_DOCUMENTS.length() + 5);
            // No reader has the name reader, nor document, and there is no room for another one.
            s.error(FOUR_READERS + "train reader 0;", 4, FOUR_READERS.length() + 6);
            s.error("reader a a;" + EIGHT_DOCUMENTS + "train document 0;", 4, 11 + EIGHT_DOCUMENTS.length() + 6);
        });
        s.test("Section 6", "The error position is the offset of the first byte of the token;", () -> {
            s.error("  ?", 1, 2);
            s.error("\n\nyears;", 1, 2);
            s.error("reader abcdef a;", 2, 7);
            s.error("reader a a;document b;train a 000000000001;", 2, 30);
            s.error(" ".repeat(499) + "?", 1, 499);
        });
        s.test("Section 6", "it is the length of the text if the text ends too early.", () -> {
            for (String text : new String[] {"reader", "reader ", "reader a", "reader a c", "reader a c \n", "document", "document\n", "document b",
                "reader a a;train", "reader a a;document b;train a", "reader a a;document b;train a ", "reader a a;document b;train a 0",
                "year", "year   "}) {
                s.error(text, 1, text.length());
            }
            s.error("year;".repeat(99) + " year", 1, 500);
        });
    }

    private void errorCodes() {
        s.test("Section 6", "1  the token is not allowed here, or the text ends too early", () -> {
            for (String sign : new String[] {"?", "0", ";", "a"}) {
                s.error(sign, 1, 0);
            }
            for (String sign : new String[] {"?", "0", ";"}) {
                s.error("reader " + sign + " a;", 1, 7);
                s.error("reader a " + sign + ";", 1, 9);
                s.error("document " + sign + ";", 1, 9);
                s.error("train " + sign + ";", 1, 6);
            }
            for (String sign : new String[] {"?", "0", "a"}) {
                s.error("year " + sign + ";", 1, 5);
                s.error("reader a a " + sign + ";", 1, 11);
                s.error("document b " + sign + ";", 1, 11);
                s.error("reader a a;document b;train a 0 " + sign + ";", 1, 32);
            }
            for (String sign : new String[] {"?", ";", "a"}) {
                s.error("reader a a;document b;train a " + sign + ";", 1, 30);
            }
            s.error("year", 1, 4);
        });
        s.test("Section 6", "2  the name of a new reader has more than 4 characters or contains an underscore;", () -> {
            s.good("reader abcd a;");
            s.error("reader abcde a;", 2, 7);
            s.error("reader _ a;", 2, 7);
            s.error("reader abc_ a;", 2, 7);
            s.error("reader _abc a;", 2, 7);
            s.error("reader abcd_ a;", 2, 7);
        });
        s.test("Section 6", "the word of a document has more than 40 characters;", () -> {
            s.good("document " + "_".repeat(40) + ";");
            s.error("document " + "_".repeat(41) + ";", 2, 9);
            s.error("document " + "a".repeat(491), 2, 9);
        });
        s.test("Section 6", "no document has the number after train", () -> {
            s.error("reader a a;train a 0;", 2, 19);
            s.good("reader a a;document b;document c;train a 1;");
            s.error("reader a a;document b;document c;train a 2;", 2, 41);
            // The documents of the state are not those of the text.
            s.error("reader ann a;document b;train ann 1;", 2, 34);
        });
        s.test("Section 6", "3  a reader with the name of a new reader exists already", () -> {
            s.error("reader a a;reader a a;", 3, 18);
            s.error("reader abcd a;reader b c;reader abcd d;", 3, 32);
            s.good("reader abcd a;reader abc a;reader ab a;reader a a;");
            // The readers of the state are not those of the text.
            s.good("reader ann a;reader bob a;");
        });
        s.test("Section 6", "4  no reader has the name after train", () -> {
            s.error("train a 0;", 4, 6);
            s.error("document b;train a 0;", 4, 17);
            s.error("reader ab a;document b;train a 0;", 4, 29);
            s.error("reader ab a;document b;train abc 0;", 4, 29);
            s.error("reader ab a;document b;train _ 0;", 4, 29);
            s.error("document b;train ann 0;", 4, 17);
        });
        s.test("Section 6", "5  the word reader when there are 4 readers;", () -> {
            s.good(FOUR_READERS);
            s.error(FOUR_READERS + "reader e a;", 5, FOUR_READERS.length());
            s.error(FOUR_READERS + "\n reader", 5, FOUR_READERS.length() + 2);
            s.error(FOUR_READERS + "reader a a;", 5, FOUR_READERS.length());
        });
        s.test("Section 6", "the word document when there are 8 documents", () -> {
            s.good(EIGHT_DOCUMENTS);
            s.error(EIGHT_DOCUMENTS + "document e;", 5, EIGHT_DOCUMENTS.length());
            s.error(EIGHT_DOCUMENTS + " document", 5, EIGHT_DOCUMENTS.length() + 1);
        });
        s.test("Section 6", "A word that is neither a, c nor d in the place of METHOD has the error 1.", () -> {
            for (String word : new String[] {"b", "e", "aa", "ac", "dd", "_", "a_", "method", "reader"}) {
                s.error("reader a " + word + ";", 1, 9);
            }
            String[] words = {"a", "c", "d"};
            for (int i = 0; i < 3; i++) {
                int method = i;
                s.due(words[i], method, () -> s.good("reader a " + words[method] + ";").escapeMethod(0));
            }
        });
    }

    // ---- section 7

    private void states() {
        s.test("Section 7", "The input buffer, the error, the output and the slots are not part of the state.", () -> {
            TrigramReaders x = fresh();
            x.save(1);
            x.endYear();
            typed(x, "?");
            s.checks.refused("load", ILLEGAL, () -> x.load());
            x.encode(0, 1);
            x.save(0);
            typed(x, "abc");
            x.undo();
            x.restore(1);
            s.due("the buffer", 3, () -> Snapshot.inputLength(x));
            s.due("the error", 1, () -> x.errorCode());
            s.due("its position", 0, () -> x.errorPosition());
            s.written(x, "2,1,1,1,1,1");
            s.due("the slot", 2, () -> x.restore(0));
        });
        s.test("Section 7", "Before the first successful load the state is that of the text \"reader ann a;reader bob c;document abra_cadabra;"
            + "document banana;train ann 0;train bob 0;train bob 1;year;train ann 1;\".", () -> {
                TrigramReaders x = loaded("reader ann a;reader bob c;document abra_cadabra;document banana;train ann 0;train bob 0;"
                    + "train bob 1;year;train ann 1;");
                s.due("a new object", 1, () -> Snapshot.state(fresh()).equals(Snapshot.state(x)) ? 1 : 0);
                TrigramReaders y = typed(fresh(), "year;year");
                s.checks.refused("load", ILLEGAL, () -> y.load());
                s.due("after a load with an error", 1, () -> Snapshot.state(y).equals(Snapshot.state(x)) ? 1 : 0);
                y.load();
                s.due("no longer", 0, () -> y.readerCount());
            });
        s.test("Section 7", "The constants: `NONE = -1`: No such value, and a missing symbol of a context.", () -> {
            s.due("NONE", -1, () -> TrigramReaders.NONE);
            s.due("no such value", -1, () -> loaded("reader a a;").hardestDocument(0));
            s.due("a missing symbol", 10, () -> fresh().contextTotal(0, -1, -1));
        });
    }

    /** Undoable calls, each of which changes something in the state of FULL without its last reader and document. */
    private static final Sentences.Use[] UNDOABLE = {
        x -> typed(x, "year;").load(),
        x -> typed(x, "eve").addReader(D),
        x -> typed(x, "abc").addDocument(),
        x -> x.train(0, 1),
        x -> x.learn(0, 1),
        x -> x.forget(1),
        x -> x.setEscapeMethod(0, D),
        x -> x.endYear(),
        x -> x.merge(0, 1),
        x -> x.restore(1)};

    private static final Sentences.Use[] FAILING = {
        x -> typed(x, "year;?").load(),
        x -> typed(x, "ann").addReader(D),
        x -> typed(x, "a?c").addDocument(),
        x -> x.train(0, 2),
        x -> x.learn(0, 2),
        x -> x.forget(2),
        x -> x.setEscapeMethod(0, 3),
        x -> x.merge(1, 1),
        x -> x.restore(0),
        x -> x.restore(2)};

    /** The first state with another one in slot 1. */
    private static TrigramReaders withSlot() {
        TrigramReaders x = typed(fresh(), "a");
        x.addDocument();
        x.save(1);
        x.undo();
        return x;
    }

    private static void attempt(Sentences.Use use, TrigramReaders x) {
        try {
            use.on(x);
        } catch (RuntimeException refused) {
            // What it throws is looked at elsewhere.
        }
    }

    private void undoing() {
        s.test("Section 7", "Undoable methods are load if the text has no error, and addReader, addDocument, train, learn, forget, setEscapeMethod, "
            + "endYear, merge and restore if they throw no exception.", () -> {
                for (int i = 0; i < UNDOABLE.length; i++) {
                    TrigramReaders x = withSlot();
                    String before = Snapshot.state(x);
                    UNDOABLE[i].on(x);
                    s.due("undoable call " + i + " is remembered", 1, () -> x.undoDepth());
                    s.due("undoable call " + i + " changes the state", 0, () -> Snapshot.state(x).equals(before) ? 1 : 0);
                    s.due("undoable call " + i + " is undone", 0, () -> x.undo());
                    s.due("the state before call " + i, 1, () -> Snapshot.state(x).equals(before) ? 1 : 0);
                }
                for (int i = 0; i < FAILING.length; i++) {
                    TrigramReaders x = withSlot();
                    x.endYear();
                    attempt(FAILING[i], x);
                    s.due("failing call " + i + " is not remembered", 1, () -> x.undoDepth());
                }
                TrigramReaders x = withSlot();
                typed(x, "1");
                x.truncateInput(1);
                x.decode(0);
                x.encode(0, 0);
                x.writeExpected(0, 1);
                x.save(0);
                s.due("other calls are not remembered", 0, () -> x.undoDepth());
            });
        s.test("Section 7", "The latest 8 undoable calls are remembered;", () -> {
            for (int calls : new int[] {7, 8, 9, 15, 16, 17, 40}) {
                TrigramReaders x = fresh();
                Sentences.times(calls, () -> x.endYear());
                int kept = Math.min(calls, 8);
                s.due("after " + calls, kept, () -> x.undoDepth());
                for (int i = 1; i <= kept; i++) {
                    int left = kept - i;
                    int year = 1 + calls - i;
                    s.due("undo " + i + " after " + calls, left, () -> x.undo());
                    s.due("year before call " + i + " from the end", year, () -> x.year());
                }
                s.checks.refused("one more after " + calls, STATE, () -> x.undo());
            }
            // What was undone gives its place back.
            TrigramReaders y = fresh();
            Sentences.times(6, () -> y.endYear());
            Sentences.times(5, () -> y.undo());
            Sentences.times(7, () -> y.endYear());
            s.due("1 and 7", 8, () -> y.undoDepth());
            y.endYear();
            s.due("8 and no more", 8, () -> y.undoDepth());
            Sentences.times(8, () -> y.undo());
            s.due("the first one is forgotten", 2, () -> y.year());
        });
        s.test("Section 7", "load does not discard them.", () -> {
            TrigramReaders x = fresh();
            x.endYear();
            x.endYear();
            typed(x, "reader q a;").load();
            s.due("remembered", 3, () -> x.undoDepth());
            x.undo();
            x.undo();
            s.due("the call before load is undone", 2, () -> x.year());
            s.due("with its readers", 2, () -> x.readerCount());
        });
        s.test("Section 7", "Undo restores the state before the latest remembered call.", () -> {
            TrigramReaders x = withSlot();
            String[] before = new String[UNDOABLE.length];
            for (int i : new int[] {7, 3, 4, 6, 8, 5, 9, 0}) {
                before[i] = Snapshot.state(x);
                UNDOABLE[i].on(x);
            }
            for (int i : new int[] {0, 9, 5, 8, 6, 4, 3, 7}) {
                x.undo();
                s.due("the state before " + i, 1, () -> Snapshot.state(x).equals(before[i]) ? 1 : 0);
            }
        });
    }

    /** Arguments that make both exceptions of a method apply, and the first of them. */
    private void first(String what, Class<? extends RuntimeException> want, Sentences.Make make, Sentences.Use use) {
        s.refused(what, want, make, use);
    }

    private void exceptions() {
        s.test("Section 7", "A method that throws an exception changes nothing, unless its description says otherwise.", () -> {
            Sentences.Make make = () -> {
                TrigramReaders x = withSlot();
                x.encode(0, 1);
                x.endYear();
                return typed(x, "ab?");
            };
            Sentences.Use[] uses = {x -> x.truncateInput(4), x -> x.addReader(A), x -> x.addDocument(), x -> x.train(0, 2), x -> x.learn(2, 0),
                x -> x.forget(-1), x -> x.setEscapeMethod(0, 3), x -> x.merge(0, 0), x -> x.encode(0, 2), x -> x.decode(0),
                x -> x.writeExpected(0, 41), x -> x.save(2), x -> x.restore(0), x -> x.rankAt(0, 0, 12), x -> x.trainingsNeeded(0, 0, 0)};
            for (int i = 0; i < uses.length; i++) {
                TrigramReaders x = make.object();
                attempt(uses[i], x);
                s.same("call " + i, x, make.object());
            }
        });
        s.test("Section 7", "If several exceptions apply, the one that is listed first in the throws clause is thrown.", () -> {
            Sentences.Make make = TrigramReaders::new;
            first("readerNameByte", MISSING, make, x -> x.readerNameByte(2, 3));
            first("documentSymbol", MISSING, make, x -> x.documentSymbol(2, 12));
            first("countOrder0", MISSING, make, x -> x.countOrder0(2, 27));
            first("countOrder1", MISSING, make, x -> x.countOrder1(2, 27, 27));
            first("countOrder2", MISSING, make, x -> x.countOrder2(2, 27, 27, 27));
            first("contextTotal", MISSING, make, x -> x.contextTotal(2, 0, NONE));
            first("contextSymbols", MISSING, make, x -> x.contextSymbols(2, 0, NONE));
            first("symbolAtRank", MISSING, make, x -> x.symbolAtRank(2, 0, NONE, 0));
            first("rank", MISSING, make, x -> x.rank(2, 0, NONE, 27));
            first("foundOrder", MISSING, make, x -> x.foundOrder(2, 0, NONE, 27));
            first("escapes", MISSING, make, x -> x.escapes(2, 0, NONE, 27));
            first("numerator", MISSING, make, x -> x.numerator(2, 0, NONE, 27));
            first("denominator", MISSING, make, x -> x.denominator(2, 0, NONE, 27));
            first("probability", MISSING, make, x -> x.probability(2, 0, NONE, 27));
            first("codeLength", MISSING, make, x -> x.codeLength(2, 0, NONE, 27));
            first("rankAt", MISSING, make, x -> x.rankAt(0, 2, 12));
            first("trainingsNeeded", MISSING, make, x -> x.trainingsNeeded(0, 2, 0));
            first("agreements", MISSING, make, x -> x.agreements(2, 2));
            first("addReader", ILLEGAL, () -> typed(loaded(FOUR_READERS), "a"), x -> x.addReader(3));
            first("addReader", ILLEGAL, () -> typed(loaded(FOUR_READERS), "a?"), x -> x.addReader(A));
            first("addReader", ILLEGAL, () -> loaded(FOUR_READERS), x -> x.addReader(A));
            first("addDocument", ILLEGAL, () -> typed(loaded(EIGHT_DOCUMENTS), "?"), x -> x.addDocument());
            first("addDocument", ILLEGAL, () -> loaded(EIGHT_DOCUMENTS), x -> x.addDocument());
            first("setEscapeMethod", MISSING, make, x -> x.setEscapeMethod(2, 3));
            first("merge", MISSING, make, x -> x.merge(2, 2));
            first("decode", MISSING, () -> typed(fresh(), "0"), x -> x.decode(2));
            first("writeExpected", MISSING, make, x -> x.writeExpected(2, 0));
            first("restore", MISSING, make, x -> x.restore(2));
        });
        s.test("Section 7", "Methods that ask a question change nothing.", () -> {
            Sentences.Make make = () -> {
                TrigramReaders x = withSlot();
                x.encode(0, 1);
                x.endYear();
                return typed(x, "abc");
            };
            for (int i = 0; i < QUESTIONS.length; i++) {
                TrigramReaders x = make.object();
                QUESTIONS[i].on(x);
                s.same("question " + i, x, make.object());
            }
            s.due("questions of the face", 45, () -> QUESTIONS.length);
        });
    }

    private static final Sentences.Use[] QUESTIONS = {
        x -> x.errorCode(), x -> x.errorPosition(), x -> x.year(), x -> x.readerCount(), x -> x.readerNameByte(0, 0), x -> x.escapeMethod(0),
        x -> x.documentCount(), x -> x.documentLength(0), x -> x.documentSymbol(0, 0), x -> x.documentYear(0), x -> x.countOrder0(0, 0),
        x -> x.countOrder1(0, 0, 1), x -> x.countOrder2(0, 0, N, 0), x -> x.contextTotal(0, 0, N), x -> x.contextSymbols(0, 0, N),
        x -> x.order2Contexts(0), x -> x.positiveCounts(0), x -> x.timesTrained(0, 0), x -> x.trainedSymbols(0), x -> x.trainingGap(0),
        x -> x.symbolAtRank(0, 0, N, 5), x -> x.rank(0, 0, N, 5), x -> x.foundOrder(0, 0, N, 5), x -> x.escapes(0, 0, N, 5),
        x -> x.numerator(0, 0, N, 5), x -> x.denominator(0, 0, N, 5), x -> x.probability(0, 0, N, 5), x -> x.codeLength(0, 0, N, 5),
        x -> x.rankAt(0, 0, 11), x -> x.totalGuesses(0, 0), x -> x.adaptiveGuesses(0, 0), x -> x.firstGuessHits(0, 0),
        x -> x.unseenSymbols(0, 0), x -> x.hardestPosition(0, 0), x -> x.totalBits(0, 0), x -> x.meanGuesses(0, 0), x -> x.hitShare(0, 0),
        x -> x.bestReader(0), x -> x.hardestDocument(0), x -> x.guessesAfterTraining(0, 0, 1), x -> x.trainingsNeeded(0, 0, 1),
        x -> x.yearsToForget(0), x -> x.agreements(0, 1), x -> x.outputByte(0), x -> x.undoDepth()};
}
