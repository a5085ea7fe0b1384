import java.util.NoSuchElementException;

/** For each promise the ordinary answers, the edges and the refusals, worked out by hand from the document. */
public final class PromiseTests {
    private static final int NONE = TrigramReaders.NONE;
    private static final int A = TrigramReaders.METHOD_A, C = TrigramReaders.METHOD_C, D = TrigramReaders.METHOD_D;
    private static final Class<IndexOutOfBoundsException> MISSING = IndexOutOfBoundsException.class;
    private static final Class<IllegalArgumentException> ILLEGAL = IllegalArgumentException.class;
    private static final Class<IllegalStateException> STATE = IllegalStateException.class;
    private static final Class<NoSuchElementException> NOWHERE = NoSuchElementException.class;
    // The symbols that the tests use.
    private static final int N = 13, R = 17, Z = 25, UNDERSCORE = 26;

    private static final Checks checks = new Checks();

    public static void main(String[] args) {
        stored();
        inputBuffer();
        loading();
        loadErrors();
        loadErrorOrder();
        counts();
        countLimits();
        fullTables();
        contexts();
        rankings();
        probabilities();
        reading();
        comparing();
        whatIf();
        adding();
        training();
        forgetting();
        merging();
        output();
        decoding();
        slots();
        undoing();
        refusalsChangeNothing();
        questionsChangeNothing();
        checks.end();
    }

    private static TrigramReaders fresh() {
        return new TrigramReaders();
    }

    private static TrigramReaders loaded(String text) {
        TrigramReaders x = new TrigramReaders();
        Checks.type(x, text);
        x.load();
        return x;
    }

    private static void named(TrigramReaders x, String name, int method, int due) {
        Checks.type(x, name);
        checks.due("addReader " + name, due, () -> x.addReader(method));
    }

    private static void document(TrigramReaders x, String text, int due) {
        Checks.type(x, text);
        checks.due("addDocument " + text, due, () -> x.addDocument());
    }

    // ---- promises 1, 7 to 14

    private static void stored() {
        TrigramReaders x = fresh();
        checks.due("NONE", -1, () -> TrigramReaders.NONE);
        checks.due("METHOD_A", 0, () -> TrigramReaders.METHOD_A);
        checks.due("METHOD_C", 1, () -> TrigramReaders.METHOD_C);
        checks.due("METHOD_D", 2, () -> TrigramReaders.METHOD_D);
        checks.due("year", 1, () -> x.year());
        checks.due("readerCount", 2, () -> x.readerCount());
        checks.due("documentCount", 2, () -> x.documentCount());
        checks.due("errorCode", 0, () -> x.errorCode());
        checks.due("errorPosition", NONE, () -> x.errorPosition());
        checks.due("undoDepth", 0, () -> x.undoDepth());
        checks.due("truncateInput(0)", 0, () -> x.truncateInput(0));
        checks.refused("truncateInput(1)", ILLEGAL, () -> x.truncateInput(1));
        checks.refused("outputByte(0)", NOWHERE, () -> x.outputByte(0));
        checks.refused("restore(0)", STATE, () -> x.restore(0));
        checks.refused("restore(1)", STATE, () -> x.restore(1));
        name(x, 0, "ann");
        name(x, 1, "bob");
        checks.refused("name of reader 2", MISSING, () -> x.readerNameByte(2, 0));
        checks.refused("name of reader -1", MISSING, () -> x.readerNameByte(-1, -1));
        checks.due("method of ann", A, () -> x.escapeMethod(0));
        checks.due("method of bob", C, () -> x.escapeMethod(1));
        checks.refused("method of 2", MISSING, () -> x.escapeMethod(2));
        checks.refused("method of -1", MISSING, () -> x.escapeMethod(-1));
        symbols(x, 0, "abra_cadabra", 0);
        symbols(x, 1, "banana", 0);
        checks.refused("length of 2", MISSING, () -> x.documentLength(2));
        checks.refused("length of -1", MISSING, () -> x.documentLength(-1));
        checks.refused("symbol of 2", MISSING, () -> x.documentSymbol(2, -1));
        checks.refused("year of 2", MISSING, () -> x.documentYear(2));
        checks.refused("year of -1", MISSING, () -> x.documentYear(-1));
    }

    private static void name(TrigramReaders x, int reader, String name) {
        for (int i = 0; i < name.length(); i++) {
            int at = i;
            checks.due("name of " + reader + " at " + i, name.charAt(i), () -> x.readerNameByte(reader, at));
        }
        checks.refused("name of " + reader + " at its end", NOWHERE, () -> x.readerNameByte(reader, name.length()));
        checks.refused("name of " + reader + " at -1", NOWHERE, () -> x.readerNameByte(reader, -1));
    }

    private static void symbols(TrigramReaders x, int document, String text, int year) {
        checks.due("length of " + text, text.length(), () -> x.documentLength(document));
        checks.due("year of " + text, year, () -> x.documentYear(document));
        for (int i = 0; i < text.length(); i++) {
            int at = i;
            int due = text.charAt(i) == '_' ? UNDERSCORE : text.charAt(i) - 'a';
            checks.due("symbol of " + text + " at " + i, due, () -> x.documentSymbol(document, at));
        }
        checks.refused("symbol of " + text + " at its end", NOWHERE, () -> x.documentSymbol(document, text.length()));
        checks.refused("symbol of " + text + " at -1", NOWHERE, () -> x.documentSymbol(document, -1));
    }

    // ---- promises 2 and 3

    private static void inputBuffer() {
        TrigramReaders x = fresh();
        for (int i = 1; i <= 25; i++) {
            checks.due("appendInput " + i, i * 20, () -> x.appendInput(0, -1, Integer.MIN_VALUE, 0x20202020, 0x3b3b3b3b));
        }
        checks.refused("appendInput beyond 500", STATE, () -> x.appendInput(0, 0, 0, 0, 0));
        checks.due("truncateInput(500)", 500, () -> x.truncateInput(500));
        checks.refused("truncateInput(501)", ILLEGAL, () -> x.truncateInput(501));
        checks.due("truncateInput(481)", 481, () -> x.truncateInput(481));
        checks.refused("appendInput to 501", STATE, () -> x.appendInput(0, 0, 0, 0, 0));
        checks.due("truncateInput(480)", 480, () -> x.truncateInput(480));
        checks.due("appendInput to 500", 500, () -> x.appendInput(0, 0, 0, 0, 0));
        checks.refused("truncateInput(-1)", ILLEGAL, () -> x.truncateInput(-1));
        checks.due("truncateInput(0)", 0, () -> x.truncateInput(0));

        // The bytes stand in the order of the arguments, the most significant one first.
        Checks.type(x, "abcdefghijklmnopqrst");
        checks.due("addDocument", 2, () -> x.addDocument());
        symbols(x, 2, "abcdefghijklmnopqrst", 1);
        // A byte above 127 is a token that is not allowed, not an index.
        x.appendInput(0x79656172, 0x3b0affff, 0x80818283, 0, 0);
        checks.refused("load of high bytes", ILLEGAL, () -> x.load());
        checks.due("position of the high byte", 6, () -> x.errorPosition());
    }

    // ---- promises 4 to 6

    private static void loading() {
        TrigramReaders x = loaded("");
        checks.due("readers of the empty text", 0, () -> x.readerCount());
        checks.due("documents of the empty text", 0, () -> x.documentCount());
        checks.due("year of the empty text", 0, () -> x.year());
        checks.due("one call remembered", 1, () -> x.undoDepth());
        Checks.type(x, "year;year ;document a_b;year;\nreader dora  d;train dora 0000000000000000000000000000000;");
        checks.due("load", 1, () -> x.load());
        checks.refused("the buffer is empty", ILLEGAL, () -> x.truncateInput(1));
        checks.due("year", 3, () -> x.year());
        checks.due("escapeMethod", D, () -> x.escapeMethod(0));
        name(x, 0, "dora");
        symbols(x, 0, "a_b", 2);
        checks.due("timesTrained", 1, () -> x.timesTrained(0, 0));
        checks.due("undoDepth", 2, () -> x.undoDepth());
        checks.due("undo", 1, () -> x.undo());
        checks.due("readers before", 0, () -> x.readerCount());
        checks.due("undo", 0, () -> x.undo());
        checks.due("readers of the first state", 2, () -> x.readerCount());

        TrigramReaders z = loaded("reader abcd d;document banana;train abcd 0;year;year;");
        Checks.type(z, "reader e a;document x;");
        checks.due("load again", 1, () -> z.load());
        name(z, 0, "e");
        symbols(z, 0, "x", 0);
        checks.due("year from 0", 0, () -> z.year());
        checks.due("no count of the load before", 0, () -> z.positiveCounts(0));
        checks.due("no record of the load before", 0, () -> z.timesTrained(0, 0));
        checks.due("no symbols of the load before", 0, () -> z.trainedSymbols(0));
        Checks.type(z, "reader f a;");
        checks.due("load a third time", 1, () -> z.load());
        checks.due("no documents", 0, () -> z.documentCount());

        TrigramReaders y = loaded("reader year a;reader a c;reader c d;reader d a;document reader;"
            + "document b;document c;document d;document e;document f;document g;document "
            + "abcdefghijklmnopqrstuvwxyz_abcdefghijklm\n;train year0;train a 7;train a 07;year;");
        checks.due("four readers", 4, () -> y.readerCount());
        checks.due("eight documents", 8, () -> y.documentCount());
        checks.due("length 40", 40, () -> y.documentLength(7));
        checks.due("a and 7", 2, () -> y.timesTrained(1, 7));
        checks.due("halved counts", 1, () -> y.countOrder0(1, Z));
        checks.due("train year0", 1, () -> y.timesTrained(0, 0));
    }

    private static void error(String text, int code, int position) {
        TrigramReaders x = fresh();
        Checks.type(x, text);
        checks.refused("load of " + text, ILLEGAL, () -> x.load());
        checks.due("errorCode of " + text, code, () -> x.errorCode());
        checks.due("errorPosition of " + text, position, () -> x.errorPosition());
        checks.refused("buffer after " + text, ILLEGAL, () -> x.truncateInput(1));
        checks.due("readers after " + text, 2, () -> x.readerCount());
        checks.due("year after " + text, 1, () -> x.year());
        checks.due("undoDepth after " + text, 0, () -> x.undoDepth());
        checks.due("load of nothing", 0, () -> x.load());
        checks.due("errorCode of nothing", 0, () -> x.errorCode());
        checks.due("errorPosition of nothing", NONE, () -> x.errorPosition());
    }

    private static void loadErrors() {
        error(";", 1, 0);
        error("\n year", 1, 6);
        error("year ", 1, 5);
        error("year year;", 1, 5);
        error("Year;", 1, 0);
        error("years;", 1, 0);
        error("yea;", 1, 0);
        error("12;", 1, 0);
        error("year;\tyear;", 1, 5);
        error("year;\ryear;", 1, 5);
        error("reader", 1, 6);
        error("reader ;", 1, 7);
        error("reader 1 a;", 1, 7);
        error("reader abcde a;", 2, 7);
        error("reader a_b a;", 2, 7);
        error("reader _ a;", 2, 7);
        error("reader ab b;", 1, 10);
        error("reader ab aa;", 1, 10);
        error("reader ab 1;", 1, 10);
        error("reader ab A;", 1, 10);
        error("reader ab _;", 1, 10);
        error("reader ab ;", 1, 10);
        error("reader ab", 1, 9);
        error("reader ab a", 1, 11);
        error("reader ab a a;", 1, 12);
        error("reader ab a;reader  ab c;", 3, 20);
        error("reader ab1 a;", 1, 9);
        error("reader a a;reader b a;reader c a;reader d a; reader e a;", 5, 45);
        error("document", 1, 8);
        error("document ;", 1, 9);
        error("document 1;", 1, 9);
        error("document abcdefghijklmnopqrstuvwxyzabcdefghijklmno;", 2, 9);
        error("document ab", 1, 11);
        error("document ab1;", 1, 11);
        error("document ab cd;", 1, 12);
        error("document a;document b;document c;document d;document e;document f;document g;document h;document i;", 5, 88);
    }

    private static void loadErrorOrder() {
        error("train ann 0;", 4, 6);
        error("train ;", 1, 6);
        error("train 0 0;", 1, 6);
        error("train", 1, 5);
        error("reader ann a;train ann 0;", 2, 23);
        error("reader ann a;train anna 0;", 4, 19);
        error("reader ann a;train an 0;", 4, 19);
        error("reader ann a;document a;train ann 1;", 2, 34);
        error("reader ann a;document a;train ann 4294967296;", 2, 34);
        error("reader ann a;document a;train ann 18446744073709551616;", 2, 34);
        error("reader ann a;document a;train ann a;", 1, 34);
        error("reader ann a;document a;train ann ;", 1, 34);
        error("reader ann a;document a;train ann", 1, 33);
        error("reader ann a;document a;train ann -1;", 1, 34);
        error("reader ann a;document a;train ann 0", 1, 35);
        error("reader ann a;document a;train ann 0 0;", 1, 36);
        // A reader is known from its statement on, not before.
        error("document a;train ann 0;reader ann a;", 4, 17);
        // The first token with an error counts, though a later one has a smaller code.
        error("reader ann a;train bob x", 4, 19);
        error("document a\0;", 1, 10);
        error("document a;\u00e1", 1, 11);
        error("document a;;", 1, 11);
    }

    // ---- promises 15 to 17, 20, 21 and 23

    private static void counts() {
        TrigramReaders x = fresh();
        checks.due("ann a", 5, () -> x.countOrder0(0, 0));
        checks.due("ann b", 2, () -> x.countOrder0(0, 1));
        checks.due("ann c", 0, () -> x.countOrder0(0, 2));
        checks.due("ann n", 2, () -> x.countOrder0(0, N));
        checks.due("ann r", 1, () -> x.countOrder0(0, R));
        checks.due("ann _", 0, () -> x.countOrder0(0, UNDERSCORE));
        checks.due("bob a", 4, () -> x.countOrder0(1, 0));
        checks.due("ann an", 2, () -> x.countOrder1(0, 0, N));
        checks.due("ann na", 2, () -> x.countOrder1(0, N, 0));
        checks.due("ann ab", 1, () -> x.countOrder1(0, 0, 1));
        checks.due("bob an", 1, () -> x.countOrder1(1, 0, N));
        checks.due("bob ba", 0, () -> x.countOrder1(1, 1, 0));
        checks.due("ann ana", 2, () -> x.countOrder2(0, 0, N, 0));
        checks.due("ann ban", 1, () -> x.countOrder2(0, 1, 0, N));
        checks.due("ann bra", 1, () -> x.countOrder2(0, 1, R, 0));
        checks.due("bob nan", 0, () -> x.countOrder2(1, N, 0, N));
        checks.due("bob ana", 1, () -> x.countOrder2(1, 0, N, 0));
        for (int wrong : new int[] {-2, -1, 27, Integer.MIN_VALUE, Integer.MAX_VALUE}) {
            checks.refused("symbol " + wrong, ILLEGAL, () -> x.countOrder0(0, wrong));
            checks.refused("symbol " + wrong, ILLEGAL, () -> x.countOrder1(0, wrong, 0));
            checks.refused("symbol " + wrong, ILLEGAL, () -> x.countOrder1(0, 0, wrong));
            checks.refused("symbol " + wrong, ILLEGAL, () -> x.countOrder2(0, wrong, 0, 0));
            checks.refused("symbol " + wrong, ILLEGAL, () -> x.countOrder2(0, 0, wrong, 0));
            checks.refused("symbol " + wrong, ILLEGAL, () -> x.countOrder2(0, 0, 0, wrong));
        }
        for (int reader : new int[] {-1, 2, 4, Integer.MAX_VALUE}) {
            checks.refused("reader " + reader, MISSING, () -> x.countOrder0(reader, 27));
            checks.refused("reader " + reader, MISSING, () -> x.countOrder1(reader, 0, 27));
            checks.refused("reader " + reader, MISSING, () -> x.countOrder2(reader, 0, 0, 27));
            checks.refused("reader " + reader, MISSING, () -> x.order2Contexts(reader));
            checks.refused("reader " + reader, MISSING, () -> x.positiveCounts(reader));
            checks.refused("reader " + reader, MISSING, () -> x.trainedSymbols(reader));
            checks.refused("reader " + reader, MISSING, () -> x.trainingGap(reader));
            checks.refused("reader " + reader, MISSING, () -> x.timesTrained(reader, 0));
        }
        checks.due("contexts of ann: ab br ba an na", 5, () -> x.order2Contexts(0));
        checks.due("contexts of bob: ab br an", 3, () -> x.order2Contexts(1));
        checks.due("counts of ann: 4 and 6 and 5", 15, () -> x.positiveCounts(0));
        checks.due("counts of bob: 4 and 5 and 3", 12, () -> x.positiveCounts(1));
        checks.due("symbols of ann", 18, () -> x.trainedSymbols(0));
        checks.due("symbols of bob", 18, () -> x.trainedSymbols(1));
        checks.due("gap of ann", 0, () -> x.trainingGap(0));
        checks.due("gap of bob", 0, () -> x.trainingGap(1));
        checks.due("ann on 0", 1, () -> x.timesTrained(0, 0));
        checks.due("ann on 1", 1, () -> x.timesTrained(0, 1));
        checks.refused("ann on 2", MISSING, () -> x.timesTrained(0, 2));
        checks.refused("ann on -1", MISSING, () -> x.timesTrained(0, -1));
        TrigramReaders y = loaded("reader a a;document ab;document abc;document _;train a 0;train a 0;train a 2;");
        checks.due("twice ab, once _", 5, () -> y.trainedSymbols(0));
        checks.due("a on 0", 2, () -> y.timesTrained(0, 0));
        checks.due("a on 1", 0, () -> y.timesTrained(0, 1));
        checks.due("no pair", 0, () -> y.order2Contexts(0));
        checks.due("a, b, _, ab", 4, () -> y.positiveCounts(0));
    }

    private static void countLimits() {
        TrigramReaders x = loaded("reader a a;reader b a;document aaaaaaaaaaaaaaaaaaaaaaaaaaaaaaaaaaaaaaaa;");
        for (int i = 1; i <= 24; i++) {
            x.train(0, 0);
        }
        checks.due("order 0 after 24", 960, () -> x.countOrder0(0, 0));
        x.train(0, 0);
        checks.due("order 0 after 25", 999, () -> x.countOrder0(0, 0));
        checks.due("order 1 after 25", 975, () -> x.countOrder1(0, 0, 0));
        checks.due("order 2 after 25", 950, () -> x.countOrder2(0, 0, 0, 0));
        x.learn(0, 0);
        checks.due("order 1 after 26", 999, () -> x.countOrder1(0, 0, 0));
        checks.due("order 2 after 26", 988, () -> x.countOrder2(0, 0, 0, 0));
        checks.due("symbols", 1040, () -> x.trainedSymbols(0));
        checks.due("yearsToForget 999", 10, () -> x.yearsToForget(0));
        checks.due("merge", 3, () -> x.merge(0, 1));
        checks.due("order 2 merged", 988, () -> x.countOrder2(1, 0, 0, 0));
        checks.due("merge", 3, () -> x.merge(0, 1));
        checks.due("order 2 merged twice", 999, () -> x.countOrder2(1, 0, 0, 0));
        checks.due("order 0 merged twice", 999, () -> x.countOrder0(1, 0));
        x.endYear();
        checks.due("halved", 499, () -> x.countOrder0(0, 0));
        checks.due("halved", 494, () -> x.countOrder2(0, 0, 0, 0));
        checks.due("yearsToForget 499", 9, () -> x.yearsToForget(0));
    }

    /** Eight documents without a pair that stands in them twice: the most counts that a reader can have. */
    private static void fullTables() {
        TrigramReaders x = loaded("reader a a;reader b c;");
        boolean[][] used = new boolean[27][27];
        for (int document = 0; document < 8; document++) {
            StringBuilder text = new StringBuilder();
            int latest = document * 3;
            text.append(letter(latest));
            while (text.length() < 40) {
                int next = 0;
                while (used[latest][(latest + next) % 27]) {
                    next++;
                }
                used[latest][(latest + next) % 27] = true;
                latest = (latest + next) % 27;
                text.append(letter(latest));
            }
            document(x, text.toString(), document);
            x.train(document % 2, document);
        }
        x.merge(0, 1);
        checks.due("pairs of both", 8 * 38, () -> x.order2Contexts(1));
        checks.due("all counts", 27 + 8 * 39 + 8 * 38, () -> x.positiveCounts(1));
        checks.due("merged to and fro", 27 + 8 * 39 + 8 * 38, () -> x.merge(1, 0));
        // Only a part of the pairs: an object is good for 512 calls.
        for (int first = 0; first < 12; first++) {
            for (int second = 0; second < 27; second++) {
                int p = first;
                int q = second;
                checks.due("pair " + p + ", " + q, used[p][q] ? 1 : 0, () -> Math.min(1, x.countOrder1(0, p, q)));
            }
        }
    }

    private static char letter(int symbol) {
        return symbol == UNDERSCORE ? '_' : (char) ('a' + symbol);
    }

    // ---- promises 18 and 19

    private static void contexts() {
        TrigramReaders x = fresh();
        checks.due("total of ann", 10, () -> x.contextTotal(0, NONE, NONE));
        checks.due("symbols of ann", 4, () -> x.contextSymbols(0, NONE, NONE));
        checks.due("total of ann after a", 3, () -> x.contextTotal(0, NONE, 0));
        checks.due("symbols of ann after a", 2, () -> x.contextSymbols(0, NONE, 0));
        checks.due("total of ann after an", 2, () -> x.contextTotal(0, 0, N));
        checks.due("symbols of ann after an", 1, () -> x.contextSymbols(0, 0, N));
        // The first order alone counts, even if nothing occurs there.
        checks.due("total of ann after za", 0, () -> x.contextTotal(0, Z, 0));
        checks.due("symbols of ann after za", 0, () -> x.contextSymbols(0, Z, 0));
        checks.due("total of ann after __", 0, () -> x.contextTotal(0, UNDERSCORE, UNDERSCORE));
        int[][] wrong = {{0, NONE}, {26, NONE}, {-2, NONE}, {NONE, -2}, {NONE, 27}, {27, 0}, {-2, 0}, {0, 27}, {0, -2}, {27, 27},
            {Integer.MIN_VALUE, 0}, {0, Integer.MAX_VALUE}, {Integer.MAX_VALUE, Integer.MAX_VALUE}};
        for (int[] c : wrong) {
            String at = " in " + c[0] + ", " + c[1];
            checks.refused("contextTotal" + at, ILLEGAL, () -> x.contextTotal(0, c[0], c[1]));
            checks.refused("contextSymbols" + at, ILLEGAL, () -> x.contextSymbols(0, c[0], c[1]));
            checks.refused("symbolAtRank" + at, ILLEGAL, () -> x.symbolAtRank(0, c[0], c[1], 1));
            checks.refused("rank" + at, ILLEGAL, () -> x.rank(0, c[0], c[1], 0));
            checks.refused("foundOrder" + at, ILLEGAL, () -> x.foundOrder(0, c[0], c[1], 0));
            checks.refused("escapes" + at, ILLEGAL, () -> x.escapes(0, c[0], c[1], 0));
            checks.refused("numerator" + at, ILLEGAL, () -> x.numerator(0, c[0], c[1], 0));
            checks.refused("denominator" + at, ILLEGAL, () -> x.denominator(0, c[0], c[1], 0));
            checks.refused("probability" + at, ILLEGAL, () -> x.probability(0, c[0], c[1], 0));
            checks.refused("codeLength" + at, ILLEGAL, () -> x.codeLength(0, c[0], c[1], 0));
        }
        for (int r : new int[] {-1, 2}) {
            checks.refused("contextTotal of " + r, MISSING, () -> x.contextTotal(r, 0, NONE));
            checks.refused("contextSymbols of " + r, MISSING, () -> x.contextSymbols(r, 0, NONE));
            checks.refused("symbolAtRank of " + r, MISSING, () -> x.symbolAtRank(r, 0, NONE, 0));
            checks.refused("rank of " + r, MISSING, () -> x.rank(r, 0, NONE, 27));
            checks.refused("foundOrder of " + r, MISSING, () -> x.foundOrder(r, 0, NONE, 27));
            checks.refused("escapes of " + r, MISSING, () -> x.escapes(r, 0, NONE, 27));
            checks.refused("numerator of " + r, MISSING, () -> x.numerator(r, 0, NONE, 27));
            checks.refused("denominator of " + r, MISSING, () -> x.denominator(r, 0, NONE, 27));
            checks.refused("probability of " + r, MISSING, () -> x.probability(r, 0, NONE, 27));
            checks.refused("codeLength of " + r, MISSING, () -> x.codeLength(r, 0, NONE, 27));
        }
        for (int s : new int[] {-1, 27}) {
            checks.refused("rank " + s, ILLEGAL, () -> x.rank(0, 0, 0, s));
            checks.refused("foundOrder " + s, ILLEGAL, () -> x.foundOrder(0, 0, 0, s));
            checks.refused("escapes " + s, ILLEGAL, () -> x.escapes(0, 0, 0, s));
            checks.refused("numerator " + s, ILLEGAL, () -> x.numerator(0, 0, 0, s));
            checks.refused("denominator " + s, ILLEGAL, () -> x.denominator(0, 0, 0, s));
            checks.refused("probability " + s, ILLEGAL, () -> x.probability(0, 0, 0, s));
            checks.refused("codeLength " + s, ILLEGAL, () -> x.codeLength(0, 0, 0, s));
        }
    }

    // ---- promises 25 to 27

    private static void ranking(TrigramReaders x, int reader, int beforePrevious, int previous, String due) {
        for (int i = 0; i < due.length(); i++) {
            int rank = i + 1;
            int symbol = due.charAt(i) == '_' ? UNDERSCORE : due.charAt(i) - 'a';
            checks.due("symbol " + rank + " of " + due, symbol, () -> x.symbolAtRank(reader, beforePrevious, previous, rank));
            checks.due("rank of " + symbol + " in " + due, rank, () -> x.rank(reader, beforePrevious, previous, symbol));
        }
    }

    private static void rankings() {
        TrigramReaders x = fresh();
        ranking(x, 0, 1, 0, "nbarcdefghijklmopqstuvwxyz_");
        ranking(x, 0, NONE, 0, "nbarcdefghijklmopqstuvwxyz_");
        ranking(x, 0, NONE, NONE, "abnrcdefghijklmopqstuvwxyz_");
        ranking(x, 1, NONE, 0, "bnarcdefghijklmopqstuvwxyz_");
        ranking(x, 0, UNDERSCORE, UNDERSCORE, "abnrcdefghijklmopqstuvwxyz_");
        for (int rank : new int[] {0, -1, 28, Integer.MIN_VALUE, Integer.MAX_VALUE}) {
            checks.refused("rank " + rank, ILLEGAL, () -> x.symbolAtRank(0, NONE, NONE, rank));
        }
        // A greater count goes first, an equal one by number; what order 2 placed is not placed again.
        TrigramReaders y = loaded("reader e c;document _z_y_x_x;document _z_z_a;train e 0;train e 1;");
        ranking(y, 0, UNDERSCORE, Z, "_zxayb");
        ranking(y, 0, NONE, UNDERSCORE, "zxay_bcdefghijklmnopqrstuvw");
        ranking(y, 0, Z, UNDERSCORE, "ayzx_b");
        checks.due("z after _", 0, () -> y.foundOrder(0, UNDERSCORE, Z, Z));
        checks.due("_ after _z", 2, () -> y.foundOrder(0, UNDERSCORE, Z, UNDERSCORE));
        checks.due("z after z_", 2, () -> y.foundOrder(0, Z, UNDERSCORE, Z));
        checks.due("x after z_", 1, () -> y.foundOrder(0, Z, UNDERSCORE, 23));
        checks.due("b after z_", -1, () -> y.foundOrder(0, Z, UNDERSCORE, 1));
        checks.due("_ after z_", 0, () -> y.foundOrder(0, Z, UNDERSCORE, UNDERSCORE));
        checks.due("a alone", 0, () -> y.foundOrder(0, NONE, NONE, 0));
    }

    // ---- promises 28 to 32

    private static void chance(TrigramReaders x, int[] at, long top, long bottom, int escapes, int bits) {
        String what = " of " + java.util.Arrays.toString(at);
        checks.due("numerator" + what, top, () -> x.numerator(at[0], at[1], at[2], at[3]));
        checks.due("denominator" + what, bottom, () -> x.denominator(at[0], at[1], at[2], at[3]));
        checks.due("probability" + what, (double) top / (double) bottom, () -> x.probability(at[0], at[1], at[2], at[3]));
        checks.due("escapes" + what, escapes, () -> x.escapes(at[0], at[1], at[2], at[3]));
        checks.due("codeLength" + what, bits, () -> x.codeLength(at[0], at[1], at[2], at[3]));
    }

    private static void probabilities() {
        TrigramReaders x = fresh();
        chance(x, new int[] {0, 1, 0, N}, 1, 2, 0, 1);
        chance(x, new int[] {0, 1, 0, 1}, 1, 4, 1, 2);
        chance(x, new int[] {0, 1, 0, 0}, 5, 28, 2, 3);
        chance(x, new int[] {0, 1, 0, 2}, 1, 644, 3, 10);
        chance(x, new int[] {0, NONE, NONE, 0}, 5, 11, 0, 2);
        chance(x, new int[] {1, NONE, NONE, 0}, 4, 11, 0, 2);
        chance(x, new int[] {1, NONE, NONE, Z}, 4, 253, 1, 6);
        // ann after an: order 2 has a twice, order 1 has a alone and is skipped, order 0 excludes a.
        x.setEscapeMethod(0, C);
        chance(x, new int[] {0, 0, N, 0}, 2, 3, 0, 1);
        chance(x, new int[] {0, 0, N, 1}, 1, 12, 1, 4);
        x.setEscapeMethod(0, D);
        chance(x, new int[] {0, 0, N, 0}, 3, 4, 0, 1);
        chance(x, new int[] {0, 0, N, 1}, 3, 40, 1, 4);
        chance(x, new int[] {0, 0, N, Z}, 3, 920, 2, 9);
        TrigramReaders y = loaded("reader a a;reader c c;reader d d;document aa;document abcdefghijklmnopqrstuvwxyz_;"
            + "train a 1;train c 1;train d 1;");
        // Every symbol occurs; d has the probability 1 for a certain symbol only halved: (2 - 1) / 2.
        chance(y, new int[] {2, 0, 1, 2}, 1, 2, 0, 1);
        chance(y, new int[] {1, 0, 1, 2}, 1, 2, 0, 1);
        chance(y, new int[] {0, NONE, NONE, UNDERSCORE}, 1, 28, 0, 5);
        chance(y, new int[] {1, NONE, NONE, UNDERSCORE}, 1, 54, 0, 6);
        chance(y, new int[] {2, NONE, NONE, 0}, 1, 54, 0, 6);
        TrigramReaders z = loaded("reader a a;reader c c;reader d d;");
        for (int reader = 0; reader < 3; reader++) {
            chance(z, new int[] {reader, 3, 4, 5}, 1, 27, 0, 5);
            chance(z, new int[] {reader, NONE, NONE, 26}, 1, 27, 0, 5);
        }
    }

    // ---- promises 33 to 41

    private static void reading() {
        TrigramReaders x = fresh();
        // ann on banana: b 2; a after b 1; n after ba 1; a after an 1; n after na 1; a after an 1.
        int[] ranks = {2, 1, 1, 1, 1, 1};
        for (int i = 0; i < 6; i++) {
            int at = i;
            checks.due("rankAt " + i, ranks[i], () -> x.rankAt(0, 1, at));
        }
        checks.refused("rankAt 6", NOWHERE, () -> x.rankAt(0, 1, 6));
        checks.refused("rankAt -1", NOWHERE, () -> x.rankAt(0, 1, -1));
        checks.refused("rankAt of document 2", MISSING, () -> x.rankAt(0, 2, -1));
        checks.refused("rankAt of reader 2", MISSING, () -> x.rankAt(2, 0, -1));
        checks.due("totalGuesses", 7, () -> x.totalGuesses(0, 1));
        checks.due("firstGuessHits", 5, () -> x.firstGuessHits(0, 1));
        checks.due("unseenSymbols", 0, () -> x.unseenSymbols(0, 1));
        checks.due("hardestPosition", 0, () -> x.hardestPosition(0, 1));
        checks.due("meanGuesses", 7.0 / 6.0, () -> x.meanGuesses(0, 1));
        checks.due("hitShare", 5.0f / 6.0f, () -> x.hitShare(0, 1));
        // Method A: b 2/11; a 1/3; n 1/2; a 2/3; n 1/2; a 2/3.
        checks.due("totalBits", 3 + 2 + 1 + 1 + 1 + 1, () -> x.totalBits(0, 1));
        // abra_cadabra: a1 b2 r1 a1; _ after ra 27, c 5 and a 1; d after ca 6; a 1; b after da 2; r 1; a 1.
        int[] others = {1, 2, 1, 1, 27, 5, 1, 6, 1, 2, 1, 1};
        int sum = 0;
        for (int i = 0; i < others.length; i++) {
            int at = i;
            sum += others[i];
            checks.due("rankAt " + i, others[i], () -> x.rankAt(0, 0, at));
        }
        int total = sum;
        checks.due("totalGuesses", total, () -> x.totalGuesses(0, 0));
        checks.due("firstGuessHits", 7, () -> x.firstGuessHits(0, 0));
        checks.due("unseenSymbols", 3, () -> x.unseenSymbols(0, 0));
        checks.due("hardestPosition", 4, () -> x.hardestPosition(0, 0));
        checks.due("meanGuesses", total / 12.0, () -> x.meanGuesses(0, 0));
        checks.due("hitShare", 7.0f / 12.0f, () -> x.hitShare(0, 0));

        TrigramReaders y = loaded("reader e a;document aaa;document bab;document _;");
        checks.due("nothing known", 3, () -> y.totalGuesses(0, 0));
        checks.due("nothing known", 3, () -> y.unseenSymbols(0, 0));
        checks.due("nothing known: 1/27 each", 15, () -> y.totalBits(0, 0));
        checks.due("learning aaa", 3, () -> y.adaptiveGuesses(0, 0));
        checks.due("bab", 5, () -> y.totalGuesses(0, 1));
        checks.due("the first of the hardest", 0, () -> y.hardestPosition(0, 1));
        checks.due("b 2, then a after b 2, then b after a 2", 6, () -> y.adaptiveGuesses(0, 1));
        checks.due("_", 27, () -> y.totalGuesses(0, 2));
        checks.due("_", 27, () -> y.adaptiveGuesses(0, 2));
        checks.due("no hit", 0, () -> y.hitShare(0, 2));
        checks.due("one symbol", 27, () -> y.meanGuesses(0, 2));
        y.train(0, 2);
        checks.due("one symbol", 1, () -> y.meanGuesses(0, 2));
        checks.due("one symbol", 1, () -> y.hitShare(0, 2));
        checks.due("the first position is the hardest", 0, () -> y.hardestPosition(0, 2));
        // Method A: _ 1/2.
        checks.due("one symbol", 1, () -> y.totalBits(0, 2));
        refusedForDocuments(x);
    }

    private static void refusedForDocuments(TrigramReaders x) {
        int[][] wrong = {{2, 0}, {-1, 0}, {0, 2}, {0, -1}, {Integer.MAX_VALUE, Integer.MIN_VALUE}};
        for (int[] w : wrong) {
            checks.refused("totalGuesses", MISSING, () -> x.totalGuesses(w[0], w[1]));
            checks.refused("adaptiveGuesses", MISSING, () -> x.adaptiveGuesses(w[0], w[1]));
            checks.refused("firstGuessHits", MISSING, () -> x.firstGuessHits(w[0], w[1]));
            checks.refused("unseenSymbols", MISSING, () -> x.unseenSymbols(w[0], w[1]));
            checks.refused("hardestPosition", MISSING, () -> x.hardestPosition(w[0], w[1]));
            checks.refused("totalBits", MISSING, () -> x.totalBits(w[0], w[1]));
            checks.refused("meanGuesses", MISSING, () -> x.meanGuesses(w[0], w[1]));
            checks.refused("hitShare", MISSING, () -> x.hitShare(w[0], w[1]));
            checks.refused("guessesAfterTraining", MISSING, () -> x.guessesAfterTraining(w[0], w[1], 0));
            checks.refused("guessesAfterTraining", MISSING, () -> x.guessesAfterTraining(w[0], 0, w[1] == 0 ? 2 : w[1]));
            checks.refused("trainingsNeeded", MISSING, () -> x.trainingsNeeded(w[0], w[1], 0));
            checks.refused("timesTrained", MISSING, () -> x.timesTrained(w[0], w[1]));
            checks.refused("train", MISSING, () -> x.train(w[0], w[1]));
            checks.refused("learn", MISSING, () -> x.learn(w[0], w[1]));
            checks.refused("encode", MISSING, () -> x.encode(w[0], w[1]));
        }
        checks.due("nothing is remembered", 0, () -> x.undoDepth());
    }

    // ---- promises 42, 43 and 47

    private static void comparing() {
        TrigramReaders x = fresh();
        checks.due("best for banana", 0, () -> x.bestReader(1));
        checks.due("hardest for ann", 0, () -> x.hardestDocument(0));
        checks.refused("best for 2", MISSING, () -> x.bestReader(2));
        checks.refused("best for -1", MISSING, () -> x.bestReader(-1));
        checks.refused("hardest for 2", MISSING, () -> x.hardestDocument(2));
        checks.refused("hardest for -1", MISSING, () -> x.hardestDocument(-1));
        // After ab, br and an both guess r, a, a; after ba ann guesses n, bob b; after na ann guesses n, bob b.
        checks.due("ann and bob", 3, () -> x.agreements(0, 1));
        checks.due("bob and ann", 3, () -> x.agreements(1, 0));
        checks.refused("ann and ann", ILLEGAL, () -> x.agreements(0, 0));
        checks.refused("ann and nobody", MISSING, () -> x.agreements(0, 2));
        checks.refused("nobody and ann", MISSING, () -> x.agreements(-1, 0));
        checks.refused("nobody and nobody", MISSING, () -> x.agreements(2, 2));

        TrigramReaders y = loaded("reader a a;reader b a;reader c a;document ba;document ab;document abc;document zzz;"
            + "train b 2;train c 2;");
        checks.due("the first of the best", 1, () -> y.bestReader(2));
        checks.due("the last reader is the best", 1, () -> y.bestReader(1));
        checks.due("hardest", 3, () -> y.hardestDocument(1));
        checks.due("a and b: ab only, a guesses a, b guesses c", 0, () -> y.agreements(0, 1));
        checks.due("b and c", 1, () -> y.agreements(1, 2));
        TrigramReaders empty = loaded("document ab;document ba;");
        checks.due("no readers", NONE, () -> empty.bestReader(0));
        checks.refused("no readers, no document", MISSING, () -> empty.bestReader(2));
        TrigramReaders bare = loaded("reader a a;reader b a;");
        checks.due("no documents", NONE, () -> bare.hardestDocument(0));
        checks.due("no pairs", 0, () -> bare.agreements(0, 1));
        TrigramReaders ends = loaded("reader a a;document ________________________________________;document a;");
        checks.due("1080 guesses", 1080, () -> ends.totalGuesses(0, 0));
        checks.due("the best all the same", 0, () -> ends.bestReader(0));
        checks.due("1080 guesses and 1", 0, () -> ends.hardestDocument(0));
        TrigramReaders one = loaded("reader a a;document a;");
        checks.due("one guess", 0, () -> one.hardestDocument(0));
        TrigramReaders pairs = loaded("reader a a;reader b a;document aaa;train a 0;");
        checks.due("the first pair, one reader", 1, () -> pairs.agreements(0, 1));
        checks.due("the first pair, the other reader", 1, () -> pairs.agreements(1, 0));
        TrigramReaders last = loaded("reader a a;reader b a;document ___;train a 0;train b 0;");
        checks.due("the last pair", 1, () -> last.agreements(1, 0));
        TrigramReaders even = loaded("reader a a;reader b a;document ab;document ba;document _;document _;");
        checks.due("equal readers", 0, () -> even.bestReader(0));
        checks.due("equal documents", 2, () -> even.hardestDocument(1));
    }

    // ---- promises 44 to 46

    private static void whatIf() {
        TrigramReaders x = loaded("reader e c;document zyz;document zy;document x;");
        // After zyz: z is first, y follows z, z follows y.
        checks.due("itself", 3, () -> x.guessesAfterTraining(0, 0, 0));
        checks.due("zy", 2, () -> x.guessesAfterTraining(0, 0, 1));
        checks.due("x after zyz: z and y, then a to x", 26, () -> x.guessesAfterTraining(0, 0, 2));
        checks.due("zyz after x: x comes first, but stood before y anyway", 26 + 25 + 26, () -> x.guessesAfterTraining(0, 2, 0));
        checks.due("not trained", 26 + 25 + 26, () -> x.totalGuesses(0, 0));
        checks.refused("trained 3", MISSING, () -> x.guessesAfterTraining(0, 3, 0));
        checks.refused("read 3", MISSING, () -> x.guessesAfterTraining(0, 0, 3));
        checks.refused("read -1", MISSING, () -> x.guessesAfterTraining(0, 0, -1));
        checks.refused("reader 1", MISSING, () -> x.guessesAfterTraining(1, 0, 0));

        checks.due("none needed", 0, () -> x.trainingsNeeded(0, 0, 77));
        checks.due("one needed", 1, () -> x.trainingsNeeded(0, 0, 76));
        checks.due("one needed", 1, () -> x.trainingsNeeded(0, 0, 3));
        checks.due("never", NONE, () -> x.trainingsNeeded(0, 0, 2));
        checks.due("never", NONE, () -> x.trainingsNeeded(0, 0, 1));
        checks.due("always", 0, () -> x.trainingsNeeded(0, 0, 1080));
        checks.refused("limit 0", ILLEGAL, () -> x.trainingsNeeded(0, 0, 0));
        checks.refused("limit 1081", ILLEGAL, () -> x.trainingsNeeded(0, 0, 1081));
        checks.refused("limit -1", ILLEGAL, () -> x.trainingsNeeded(0, 0, Integer.MIN_VALUE));
        manyTrainings();

        TrigramReaders y = fresh();
        checks.due("ann's 5", 3, () -> y.yearsToForget(0));
        checks.due("bob's 4", 3, () -> y.yearsToForget(1));
        y.endYear();
        checks.due("ann's 2", 2, () -> y.yearsToForget(0));
        y.endYear();
        y.endYear();
        checks.due("nothing left", 0, () -> y.yearsToForget(0));
        checks.due("nothing left", 0, () -> y.positiveCounts(0));
        checks.refused("reader 2", MISSING, () -> y.yearsToForget(2));
        checks.refused("reader -1", MISSING, () -> y.yearsToForget(-1));
    }

    /** b leads in order 0 by a lead that grows with the trainings before; each training on a takes one of it. */
    private static void manyTrainings() {
        for (int lead = 1; lead <= 21; lead++) {
            TrigramReaders x = loaded("reader e c;document a;document b;");
            for (int i = 0; i < lead; i++) {
                x.train(0, 1);
            }
            int due = lead <= 20 ? lead : NONE;
            checks.due("lead " + lead, due, () -> x.trainingsNeeded(0, 0, 1));
            checks.due("no training is kept", 0, () -> x.timesTrained(0, 0));
        }
    }

    // ---- promises 48 and 49

    private static void adding() {
        TrigramReaders x = fresh();
        for (String bad : new String[] {"", "abcde", "a_", "_", "aB", "a1", "a ", " a", "a\n", "\0"}) {
            Checks.type(x, bad);
            checks.refused("addReader " + bad, ILLEGAL, () -> x.addReader(A));
            checks.due("the buffer stays", bad.length(), () -> Checks.lengthOf(x));
            x.truncateInput(0);
        }
        Checks.type(x, "ann");
        checks.refused("addReader ann", STATE, () -> x.addReader(A));
        checks.refused("method before name", ILLEGAL, () -> x.addReader(3));
        checks.refused("method -1", ILLEGAL, () -> x.addReader(-1));
        checks.due("the buffer stays", 3, () -> x.truncateInput(3));
        x.truncateInput(0);
        named(x, "an", D, 2);
        checks.due("the buffer is empty", 0, () -> Checks.lengthOf(x));
        name(x, 2, "an");
        checks.due("method", D, () -> x.escapeMethod(2));
        checks.due("no counts", 0, () -> x.positiveCounts(2));
        checks.due("no symbols", 0, () -> x.trainedSymbols(2));
        checks.due("no record", 0, () -> x.timesTrained(2, 0));
        named(x, "zzzz", C, 3);
        name(x, 3, "zzzz");
        Checks.type(x, "y");
        checks.refused("a fifth reader", STATE, () -> x.addReader(A));
        checks.refused("a fifth reader with a bad method", ILLEGAL, () -> x.addReader(4));
        checks.due("readers", 4, () -> x.readerCount());
        checks.due("undoDepth", 2, () -> x.undoDepth());
        x.truncateInput(0);

        x.endYear();
        for (String bad : new String[] {"", "a-b", "aB", "1", "abcdefghijklmnopqrstuvwxyzabcdefghijklmno", "a ", "\n"}) {
            Checks.type(x, bad);
            checks.refused("addDocument " + bad, ILLEGAL, () -> x.addDocument());
            checks.due("the buffer stays", bad.length(), () -> Checks.lengthOf(x));
            x.truncateInput(0);
        }
        document(x, "_", 2);
        document(x, "abcdefghijklmnopqrstuvwxyz_abcdefghijklm", 3);
        checks.due("the buffer is empty", 0, () -> Checks.lengthOf(x));
        symbols(x, 2, "_", 2);
        symbols(x, 3, "abcdefghijklmnopqrstuvwxyz_abcdefghijklm", 2);
        for (int i = 4; i < 8; i++) {
            document(x, "banana", i);
        }
        Checks.type(x, "a");
        checks.refused("a ninth document", STATE, () -> x.addDocument());
        Checks.type(x, "?");
        checks.refused("a ninth bad document", ILLEGAL, () -> x.addDocument());
        checks.due("documents", 8, () -> x.documentCount());
        checks.due("banana again", 0, () -> x.timesTrained(0, 7));
    }

    // ---- promises 22, 24, 50, 51, 53 and 54

    private static void training() {
        TrigramReaders x = loaded("reader e c;reader f d;document zyz;document zy;");
        checks.due("train", 3, () -> x.train(0, 0));
        checks.due("z", 2, () -> x.countOrder0(0, Z));
        checks.due("zy", 1, () -> x.countOrder1(0, Z, 24));
        checks.due("zyz", 1, () -> x.countOrder2(0, Z, 24, Z));
        checks.due("record", 1, () -> x.timesTrained(0, 0));
        checks.due("symbols", 3, () -> x.trainedSymbols(0));
        // z 26; y after z: z is first now, so y is at 26; z after zy: y and z, equal in order 0.
        checks.due("learn", 26 + 26 + 2, () -> x.learn(1, 0));
        checks.due("z", 2, () -> x.countOrder0(1, Z));
        checks.due("yz", 1, () -> x.countOrder1(1, 24, Z));
        checks.due("zyz", 1, () -> x.countOrder2(1, Z, 24, Z));
        checks.due("counts", 5, () -> x.positiveCounts(1));
        checks.due("record", 1, () -> x.timesTrained(1, 0));
        checks.due("record", 0, () -> x.timesTrained(1, 1));
        checks.due("symbols", 3, () -> x.trainedSymbols(1));
        checks.due("gap", 0, () -> x.trainingGap(1));
        checks.due("remembered", 3, () -> x.undoDepth());

        checks.due("method before", C, () -> x.setEscapeMethod(0, A));
        checks.due("method", A, () -> x.escapeMethod(0));
        checks.due("method of the other", D, () -> x.escapeMethod(1));
        checks.refused("method 3", ILLEGAL, () -> x.setEscapeMethod(0, 3));
        checks.refused("method -1", ILLEGAL, () -> x.setEscapeMethod(0, -1));
        checks.refused("reader 2", MISSING, () -> x.setEscapeMethod(2, 3));
        checks.refused("reader -1", MISSING, () -> x.setEscapeMethod(-1, 0));
        checks.due("same method", A, () -> x.setEscapeMethod(0, A));
        checks.due("remembered", 5, () -> x.undoDepth());

        checks.due("endYear", 1, () -> x.endYear());
        checks.due("year", 1, () -> x.year());
        checks.due("z of both", 1, () -> x.countOrder0(0, Z));
        checks.due("z of both", 1, () -> x.countOrder0(1, Z));
        checks.due("y of both", 0, () -> x.countOrder0(1, 24));
        checks.due("one count is left", 1, () -> x.positiveCounts(1));
        checks.due("no pair is left", 0, () -> x.order2Contexts(1));
        checks.due("the record stays", 1, () -> x.timesTrained(0, 0));
        checks.due("the symbols stay", 3, () -> x.trainedSymbols(0));
        checks.due("endYear", 2, () -> x.endYear());
        checks.due("none is left", 0, () -> x.positiveCounts(0));
    }

    // ---- promise 52

    private static void forgetting() {
        TrigramReaders x = fresh();
        checks.due("forget", 15, () -> x.forget(0));
        checks.due("counts", 0, () -> x.positiveCounts(0));
        checks.due("a", 0, () -> x.countOrder0(0, 0));
        checks.due("record", 0, () -> x.timesTrained(0, 0));
        checks.due("record", 0, () -> x.timesTrained(0, 1));
        checks.due("symbols", 0, () -> x.trainedSymbols(0));
        checks.due("the method stays", A, () -> x.escapeMethod(0));
        name(x, 0, "ann");
        checks.due("bob stays", 12, () -> x.positiveCounts(1));
        checks.due("forget", 0, () -> x.forget(0));
        checks.due("remembered", 2, () -> x.undoDepth());
        checks.refused("reader 2", MISSING, () -> x.forget(2));
        checks.refused("reader -1", MISSING, () -> x.forget(-1));
        x.undo();
        checks.due("undo", 0, () -> x.undo());
        checks.due("counts", 15, () -> x.positiveCounts(0));
        checks.due("symbols", 18, () -> x.trainedSymbols(0));
        checks.due("record", 1, () -> x.timesTrained(0, 1));
    }

    // ---- promise 55

    private static void merging() {
        TrigramReaders x = fresh();
        checks.refused("ann into ann", ILLEGAL, () -> x.merge(0, 0));
        checks.refused("nobody into nobody", MISSING, () -> x.merge(2, 2));
        checks.refused("ann into nobody", MISSING, () -> x.merge(0, 2));
        checks.refused("nobody into ann", MISSING, () -> x.merge(-1, 0));
        checks.due("nothing remembered", 0, () -> x.undoDepth());
        // All of bob's counts are ann's, too; ann has ba, ban and nan beside them.
        checks.due("ann into bob", 15, () -> x.merge(0, 1));
        checks.due("a", 9, () -> x.countOrder0(1, 0));
        checks.due("an", 3, () -> x.countOrder1(1, 0, N));
        checks.due("ana", 3, () -> x.countOrder2(1, 0, N, 0));
        checks.due("nan", 1, () -> x.countOrder2(1, N, 0, N));
        checks.due("record", 2, () -> x.timesTrained(1, 0));
        checks.due("record", 2, () -> x.timesTrained(1, 1));
        checks.due("symbols", 36, () -> x.trainedSymbols(1));
        checks.due("gap", 0, () -> x.trainingGap(1));
        checks.due("ann's a", 5, () -> x.countOrder0(0, 0));
        checks.due("ann's record", 1, () -> x.timesTrained(0, 0));
        checks.due("ann's symbols", 18, () -> x.trainedSymbols(0));
        checks.due("method of bob", C, () -> x.escapeMethod(1));
        for (int i = 0; i < 60; i++) {
            x.merge(i % 2 == 0 ? 1 : 0, i % 2 == 0 ? 0 : 1);
        }
        checks.due("the gap stays 0 when the sums wrap around", 0, () -> x.trainingGap(0));
        checks.due("the gap stays 0 when the sums wrap around", 0, () -> x.trainingGap(1));
        checks.due("the greatest count", 999, () -> x.countOrder0(0, 0));
    }

    // ---- promises 56, 58 and 59

    private static void written(TrigramReaders x, String due) {
        checks.hold("output " + due, Checks.output(x, due.length()).equals(due));
        checks.refused("output after " + due, NOWHERE, () -> x.outputByte(due.length()));
        checks.refused("output before " + due, NOWHERE, () -> x.outputByte(-1));
    }

    private static void output() {
        TrigramReaders x = fresh();
        checks.due("encode", 24, () -> x.encode(0, 0));
        written(x, "1,2,1,1,27,5,1,6,1,2,1,1");
        checks.due("encode", 11, () -> x.encode(0, 1));
        written(x, "2,1,1,1,1,1");
        checks.due("nothing is remembered", 0, () -> x.undoDepth());
        checks.refused("outputByte", NOWHERE, () -> x.outputByte(Integer.MAX_VALUE));
        checks.refused("outputByte", NOWHERE, () -> x.outputByte(Integer.MIN_VALUE));
        // ann: a, then n after a, then a after an, then n after na.
        checks.due("writeExpected", 5, () -> x.writeExpected(0, 5));
        written(x, "anana");
        // bob: a, then b after a, r after ab, a after br, b after ra by order 1.
        checks.due("writeExpected", 7, () -> x.writeExpected(1, 7));
        written(x, "abrabra");
        checks.due("writeExpected", 40, () -> x.writeExpected(0, 40));
        checks.due("writeExpected", 1, () -> x.writeExpected(0, 1));
        written(x, "a");
        checks.refused("length 0", ILLEGAL, () -> x.writeExpected(0, 0));
        checks.refused("length 41", ILLEGAL, () -> x.writeExpected(0, 41));
        checks.refused("length -1", ILLEGAL, () -> x.writeExpected(0, -1));
        checks.refused("reader 2", MISSING, () -> x.writeExpected(2, 0));
        checks.refused("reader -1", MISSING, () -> x.writeExpected(-1, 1));
        checks.refused("encode", MISSING, () -> x.encode(2, 0));
        written(x, "a");

        TrigramReaders z = loaded("reader e a;document ijkst;");
        checks.due("encode", 13, () -> z.encode(0, 0));
        written(z, "9,10,11,19,20");
        TrigramReaders y = loaded("reader e a;document ________________________________________;document __b;");
        checks.due("the longest output", 119, () -> y.encode(0, 0));
        written(y, "27,".repeat(39) + "27");
        y.train(0, 0);
        checks.due("writeExpected", 3, () -> y.writeExpected(0, 3));
        written(y, "___");
        checks.due("encode", 5, () -> y.encode(0, 1));
        written(y, "1,1,3");
    }

    // ---- promise 57

    private static void decoded(TrigramReaders x, int reader, String ranks, String due) {
        Checks.type(x, ranks);
        checks.due("decode " + ranks, due.length(), () -> x.decode(reader));
        written(x, due);
        checks.due("the buffer is empty", 0, () -> Checks.lengthOf(x));
    }

    private static void decoding() {
        TrigramReaders x = fresh();
        decoded(x, 0, "2,1,1,1,1,1", "banana");
        decoded(x, 0, "1,2,1,1,27,5,1,6,1,2,1,1", "abra_cadabra");
        decoded(x, 0, "0000000000000000000000000000000000000000000000000000000000000000000002,027", "b_");
        decoded(x, 0, "1" + ",27".repeat(39), "a" + "_".repeat(39));
        TrigramReaders blank = loaded("reader e a;");
        decoded(blank, 0, "9,10,19,20,26,27", "ijstz_");
        String[] wrong = {"", ",", "1,", ",1", "1,,1", "0", "00", "28", "1,28", "1 ,2", " 1", "1 ", "1;2", "a", "-1", "+1", "1.0",
            "1\n", "1,0", "1" + ",1".repeat(40), "4294967297", "18446744073709551617", "1\0", "100", "270"};
        for (String ranks : wrong) {
            TrigramReaders y = fresh();
            y.writeExpected(0, 3);
            Checks.type(y, ranks);
            checks.refused("decode " + ranks, ILLEGAL, () -> y.decode(0));
            checks.due("the buffer stays", ranks.length(), () -> Checks.lengthOf(y));
            checks.refused("decode of nobody " + ranks, MISSING, () -> y.decode(2));
            written(y, "ana");
        }
        Checks.type(x, "1");
        checks.refused("decode of nobody", MISSING, () -> x.decode(-1));
        checks.due("nothing is remembered", 0, () -> x.undoDepth());
    }

    // ---- promises 60 and 61

    private static void slots() {
        TrigramReaders x = fresh();
        for (int slot : new int[] {-1, 2, Integer.MAX_VALUE, Integer.MIN_VALUE}) {
            checks.refused("save " + slot, MISSING, () -> x.save(slot));
            checks.refused("restore " + slot, MISSING, () -> x.restore(slot));
        }
        checks.due("save", 1, () -> x.save(1));
        checks.refused("the other slot", STATE, () -> x.restore(0));
        checks.due("save is not remembered", 0, () -> x.undoDepth());
        named(x, "eve", D, 2);
        document(x, "zyz", 2);
        x.train(2, 2);
        x.train(0, 0);
        x.endYear();
        checks.due("save", 2, () -> x.save(0));
        checks.due("restore", 1, () -> x.restore(1));
        checks.due("remembered", 6, () -> x.undoDepth());
        checks.due("readers", 2, () -> x.readerCount());
        checks.due("documents", 2, () -> x.documentCount());
        checks.due("ann's a", 5, () -> x.countOrder0(0, 0));
        checks.due("year", 1, () -> x.year());
        checks.due("ann on 0", 1, () -> x.timesTrained(0, 0));
        x.train(0, 0);
        checks.due("the slot keeps its content", 1, () -> x.restore(1));
        checks.due("ann's a", 5, () -> x.countOrder0(0, 0));
        checks.due("restore", 2, () -> x.restore(0));
        checks.due("readers", 3, () -> x.readerCount());
        name(x, 2, "eve");
        checks.due("method of eve", D, () -> x.escapeMethod(2));
        symbols(x, 2, "zyz", 1);
        checks.due("eve on 2", 1, () -> x.timesTrained(2, 2));
        checks.due("eve's z", 1, () -> x.countOrder0(2, Z));
        checks.due("save discards", 2, () -> x.save(1));
        x.load();
        checks.due("restore", 2, () -> x.restore(1));
        checks.due("readers", 3, () -> x.readerCount());
        x.undo();
        checks.due("readers", 0, () -> x.readerCount());
    }

    // ---- promises 62 and 63

    private static void undoing() {
        TrigramReaders x = fresh();
        checks.refused("nothing to undo", STATE, () -> x.undo());
        for (int i = 1; i <= 10; i++) {
            int due = Math.min(i, 8);
            x.endYear();
            checks.due("undoDepth", due, () -> x.undoDepth());
        }
        checks.due("year", 11, () -> x.year());
        for (int i = 7; i >= 4; i--) {
            int left = i;
            checks.due("undo", left, () -> x.undo());
            checks.due("year", 3 + left, () -> x.year());
        }
        x.endYear();
        x.endYear();
        checks.due("undoDepth", 6, () -> x.undoDepth());
        for (int i = 5; i >= 0; i--) {
            int left = i;
            checks.due("undo", left, () -> x.undo());
            checks.due("year", 3 + left, () -> x.year());
        }
        checks.refused("all is undone", STATE, () -> x.undo());
        checks.due("year", 3, () -> x.year());

        TrigramReaders y = fresh();
        named(y, "eve", D, 2);
        document(y, "zyz", 2);
        y.train(2, 2);
        y.learn(0, 2);
        y.merge(0, 1);
        y.setEscapeMethod(1, A);
        y.forget(0);
        y.load();
        checks.due("undo load", 7, () -> y.undo());
        checks.due("readers", 3, () -> y.readerCount());
        checks.due("undo forget", 6, () -> y.undo());
        checks.due("ann's z", 2, () -> y.countOrder0(0, Z));
        checks.due("ann's symbols", 21, () -> y.trainedSymbols(0));
        checks.due("undo setEscapeMethod", 5, () -> y.undo());
        checks.due("method of bob", C, () -> y.escapeMethod(1));
        checks.due("undo merge", 4, () -> y.undo());
        checks.due("bob's z", 0, () -> y.countOrder0(1, Z));
        checks.due("bob's symbols", 18, () -> y.trainedSymbols(1));
        checks.due("undo learn", 3, () -> y.undo());
        checks.due("ann's z", 0, () -> y.countOrder0(0, Z));
        checks.due("ann on 2", 0, () -> y.timesTrained(0, 2));
        checks.due("undo train", 2, () -> y.undo());
        checks.due("eve's counts", 0, () -> y.positiveCounts(2));
        checks.due("undo addDocument", 1, () -> y.undo());
        checks.refused("document 2", MISSING, () -> y.documentLength(2));
        checks.due("undo addReader", 0, () -> y.undo());
        checks.refused("reader 2", MISSING, () -> y.escapeMethod(2));
        named(y, "x", A, 2);
        document(y, "q", 2);
        name(y, 2, "x");
        symbols(y, 2, "q", 1);
        checks.due("a new reader's counts", 0, () -> y.positiveCounts(2));
        y.train(2, 2);
        y.undo();
        y.undo();
        y.undo();
        named(y, "w", A, 2);
        checks.due("a new reader's counts", 0, () -> y.positiveCounts(2));
        checks.due("a new reader's symbols", 0, () -> y.trainedSymbols(2));
    }

    // ---- section 7: a method that throws changes nothing; the buffer, the error, the output and the slots are no state

    private static void refusalsChangeNothing() {
        TrigramReaders x = fresh();
        x.encode(0, 1);
        Checks.type(x, "year");
        checks.refused("load", ILLEGAL, () -> x.load());
        Checks.type(x, "a1");
        checks.refused("addReader", ILLEGAL, () -> x.addReader(A));
        checks.refused("addDocument", ILLEGAL, () -> x.addDocument());
        checks.refused("truncateInput", ILLEGAL, () -> x.truncateInput(3));
        checks.refused("decode", ILLEGAL, () -> x.decode(0));
        checks.refused("writeExpected", ILLEGAL, () -> x.writeExpected(0, 41));
        checks.refused("merge", ILLEGAL, () -> x.merge(1, 1));
        checks.refused("setEscapeMethod", ILLEGAL, () -> x.setEscapeMethod(1, 9));
        checks.refused("restore", STATE, () -> x.restore(0));
        checks.refused("undo", STATE, () -> x.undo());
        written(x, "2,1,1,1,1,1");
        checks.due("length", 2, () -> Checks.lengthOf(x));
        checks.due("errorCode stays", 1, () -> x.errorCode());
        checks.due("errorPosition stays", 4, () -> x.errorPosition());
        checks.due("undoDepth", 0, () -> x.undoDepth());
        checks.due("counts", 15, () -> x.positiveCounts(0));

        x.endYear();
        x.save(0);
        x.undo();
        written(x, "2,1,1,1,1,1");
        checks.due("the buffer is not undone", 2, () -> Checks.lengthOf(x));
        checks.due("the error is not undone", 1, () -> x.errorCode());
        checks.due("the slot is not undone", 2, () -> x.restore(0));
        checks.due("the error is not restored", 4, () -> x.errorPosition());
    }

    private static void questionsChangeNothing() {
        TrigramReaders x = fresh();
        x.adaptiveGuesses(0, 0);
        x.guessesAfterTraining(0, 0, 1);
        x.trainingsNeeded(0, 0, 1);
        x.yearsToForget(0);
        x.bestReader(0);
        x.hardestDocument(0);
        x.agreements(0, 1);
        x.totalBits(0, 0);
        x.encode(0, 0);
        x.writeExpected(0, 40);
        checks.due("undoDepth", 0, () -> x.undoDepth());
        checks.due("counts", 15, () -> x.positiveCounts(0));
        checks.due("a", 5, () -> x.countOrder0(0, 0));
        checks.due("symbols", 18, () -> x.trainedSymbols(0));
        checks.due("record", 1, () -> x.timesTrained(0, 0));
        checks.due("year", 1, () -> x.year());
    }
}
