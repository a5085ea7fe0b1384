import java.util.NoSuchElementException;

/** Adaptive symbol predictors that play Shannon's guessing game on stored documents. */
public final class TrigramReaders {
    public static final int NONE = -1;
    public static final int METHOD_A = 0, METHOD_C = 1, METHOD_D = 2;

    private static final int SYMBOLS = 27;
    private static final int UNDERSCORE_SYMBOL = 26;
    private static final int MAX_READERS = 4;
    private static final int MAX_NAME = 4;
    private static final int MAX_DOCUMENTS = 8;
    private static final int MAX_SYMBOLS = 40;
    private static final int MAX_COUNT = 999;
    private static final int MAX_BYTES = 500;
    private static final int MAX_UNDO = 8;
    private static final int SLOTS = 2;
    private static final int MAX_GUESSES = SYMBOLS * MAX_SYMBOLS;
    private static final int MAX_TRAININGS = 20;

    // One key names one count of the three tables: the order-0 counts come first, then order 1, then order 2.
    private static final int ORDER_1_START = SYMBOLS;
    private static final int PAIRS = SYMBOLS * SYMBOLS;
    private static final int ORDER_2_START = ORDER_1_START + PAIRS;

    // All that a reader counts stands in the documents of its state, which bounds its positive counts.
    private static final int MAX_POSITIVE =
        SYMBOLS + MAX_DOCUMENTS * (MAX_SYMBOLS - 1) + MAX_DOCUMENTS * (MAX_SYMBOLS - 2);
    // The search in the counts takes steps of half the size; their sum must reach MAX_POSITIVE.
    private static final int FIRST_SEARCH_STEP = 512;

    // Every number that the texts may hold is smaller; a greater one is cut to it, so that it can't overflow.
    private static final int HUGE_NUMBER = 1000;
    // Euclid's algorithm needs fewer than 100 steps for two long values.
    private static final int MAX_DIVISIONS = 1000;

    private static final String FIRST_TEXT =
        "reader ann a;reader bob c;document abra_cadabra;document banana;train ann 0;train bob 0;train bob 1;year;train ann 1;";

    private final State state = firstState();
    private final State loaded = new State();
    private final State[] past = new State[MAX_UNDO];
    private int pastNext = 0;
    private int pastCount = 0;
    private final State[] slots = new State[SLOTS];
    private final boolean[] slotUsed = new boolean[SLOTS];
    private final Bytes input = new Bytes();
    private final Bytes output = new Bytes();
    private int loadErrorCode = 0;
    private int loadErrorPosition = NONE;
    private final Counts trial = new Counts();
    private final Ranking ranking = new Ranking();
    private final Chance chance = new Chance();
    private final int[] decodedRanks = new int[MAX_SYMBOLS];

    public TrigramReaders() {
        for (int i = 0; i < MAX_UNDO; i++) {
            past[i] = new State();
        }
        for (int i = 0; i < SLOTS; i++) {
            slots[i] = new State();
        }
    }

    private static State firstState() {
        Bytes text = new Bytes();
        for (int i = 0; i < FIRST_TEXT.length(); i++) {
            text.append(FIRST_TEXT.charAt(i));
        }
        State first = new State();
        Parser parser = new Parser(text, first);
        parser.parseAll();
        return first;
    }

    // ---- input text

    public int appendInput(int a, int b, int c, int d, int e) throws IllegalStateException {
        if (input.length + 20 > MAX_BYTES) {
            throw new IllegalStateException("the input buffer is full");
        }
        input.appendFour(a);
        input.appendFour(b);
        input.appendFour(c);
        input.appendFour(d);
        input.appendFour(e);
        return input.length;
    }

    public int truncateInput(int length) throws IllegalArgumentException {
        if (length < 0 || length > input.length) {
            throw new IllegalArgumentException("the length is out of range");
        }
        input.length = length;
        return length;
    }

    public int load() throws IllegalArgumentException {
        loaded.clear();
        Parser parser = new Parser(input, loaded);
        boolean good = parser.parseAll();
        input.clear();
        loadErrorCode = parser.errorCode;
        loadErrorPosition = parser.errorPosition;
        if (!good) {
            throw new IllegalArgumentException("the text has an error");
        }
        remember();
        state.copyFrom(loaded);
        return state.readersUsed;
    }

    public int errorCode() {
        return loadErrorCode;
    }

    public int errorPosition() {
        return loadErrorPosition;
    }

    // ---- the state

    public int year() {
        return state.currentYear;
    }

    public int readerCount() {
        return state.readersUsed;
    }

    public int readerNameByte(int reader, int position) throws IndexOutOfBoundsException, NoSuchElementException {
        int letter = existingReader(reader).nameAt(position);
        if (letter == NONE) {
            throw new NoSuchElementException("the name has no such position");
        }
        return letter;
    }

    public int escapeMethod(int reader) throws IndexOutOfBoundsException {
        return existingReader(reader).method;
    }

    public int documentCount() {
        return state.documentsUsed;
    }

    public int documentLength(int document) throws IndexOutOfBoundsException {
        return existingDocument(document).length;
    }

    public int documentSymbol(int document, int position) throws IndexOutOfBoundsException, NoSuchElementException {
        int symbol = existingDocument(document).symbolAt(position);
        if (symbol == NONE) {
            throw new NoSuchElementException("the document has no such position");
        }
        return symbol;
    }

    public int documentYear(int document) throws IndexOutOfBoundsException {
        return existingDocument(document).yearAdded;
    }

    // ---- the counts

    public int countOrder0(int reader, int symbol) throws IndexOutOfBoundsException, IllegalArgumentException {
        Reader found = existingReader(reader);
        requireSymbol(symbol);
        return found.counts.valueOf(contextStart(0, NONE, NONE) + symbol);
    }

    public int countOrder1(int reader, int previous, int symbol)
            throws IndexOutOfBoundsException, IllegalArgumentException {
        Reader found = existingReader(reader);
        requireSymbol(previous);
        requireSymbol(symbol);
        return found.counts.valueOf(contextStart(1, NONE, previous) + symbol);
    }

    public int countOrder2(int reader, int beforePrevious, int previous, int symbol)
            throws IndexOutOfBoundsException, IllegalArgumentException {
        Reader found = existingReader(reader);
        requireSymbol(beforePrevious);
        requireSymbol(previous);
        requireSymbol(symbol);
        return found.counts.valueOf(contextStart(2, beforePrevious, previous) + symbol);
    }

    public int contextTotal(int reader, int beforePrevious, int previous)
            throws IndexOutOfBoundsException, IllegalArgumentException {
        Reader found = existingReader(reader);
        requireContext(beforePrevious, previous);
        int order = firstOrder(beforePrevious, previous);
        return found.counts.sumIn(contextStart(order, beforePrevious, previous));
    }

    public int contextSymbols(int reader, int beforePrevious, int previous)
            throws IndexOutOfBoundsException, IllegalArgumentException {
        Reader found = existingReader(reader);
        requireContext(beforePrevious, previous);
        int order = firstOrder(beforePrevious, previous);
        return found.counts.symbolsIn(contextStart(order, beforePrevious, previous));
    }

    public int order2Contexts(int reader) throws IndexOutOfBoundsException {
        return existingReader(reader).counts.pairsUsed();
    }

    public int positiveCounts(int reader) throws IndexOutOfBoundsException {
        return existingReader(reader).counts.size;
    }

    public int timesTrained(int reader, int document) throws IndexOutOfBoundsException {
        Reader found = existingReader(reader);
        existingDocument(document);
        return found.trainingsOn(document);
    }

    public int trainedSymbols(int reader) throws IndexOutOfBoundsException {
        return existingReader(reader).symbolsTrained;
    }

    public int trainingGap(int reader) throws IndexOutOfBoundsException {
        Reader found = existingReader(reader);
        int gap = found.symbolsTrained;
        for (int i = 0; i < state.documentsUsed; i++) {
            gap -= found.trainingsOn(i) * existingDocument(i).length;
        }
        return gap;
    }

    // ---- rankings and probabilities

    public int symbolAtRank(int reader, int beforePrevious, int previous, int rank)
            throws IndexOutOfBoundsException, IllegalArgumentException {
        Reader found = existingReader(reader);
        requireContext(beforePrevious, previous);
        if (rank < 1 || rank > SYMBOLS) {
            throw new IllegalArgumentException("the rank is out of range");
        }
        return guessIn(found.counts, beforePrevious, previous, rank);
    }

    public int rank(int reader, int beforePrevious, int previous, int symbol)
            throws IndexOutOfBoundsException, IllegalArgumentException {
        Reader found = existingReader(reader);
        requireContext(beforePrevious, previous);
        requireSymbol(symbol);
        return rankIn(found.counts, beforePrevious, previous, symbol);
    }

    public int foundOrder(int reader, int beforePrevious, int previous, int symbol)
            throws IndexOutOfBoundsException, IllegalArgumentException {
        Reader found = existingReader(reader);
        requireContext(beforePrevious, previous);
        requireSymbol(symbol);
        return orderOf(found.counts, beforePrevious, previous, symbol);
    }

    public int escapes(int reader, int beforePrevious, int previous, int symbol)
            throws IndexOutOfBoundsException, IllegalArgumentException {
        return chanceOf(reader, beforePrevious, previous, symbol).escapeFactors;
    }

    public long numerator(int reader, int beforePrevious, int previous, int symbol)
            throws IndexOutOfBoundsException, IllegalArgumentException {
        return chanceOf(reader, beforePrevious, previous, symbol).top;
    }

    public long denominator(int reader, int beforePrevious, int previous, int symbol)
            throws IndexOutOfBoundsException, IllegalArgumentException {
        return chanceOf(reader, beforePrevious, previous, symbol).bottom;
    }

    public double probability(int reader, int beforePrevious, int previous, int symbol)
            throws IndexOutOfBoundsException, IllegalArgumentException {
        Chance found = chanceOf(reader, beforePrevious, previous, symbol);
        return found.bottom > 0 ? (double) found.top / (double) found.bottom : 0.0;
    }

    public int codeLength(int reader, int beforePrevious, int previous, int symbol)
            throws IndexOutOfBoundsException, IllegalArgumentException {
        return chanceOf(reader, beforePrevious, previous, symbol).bits();
    }

    // ---- reading a document

    public int rankAt(int reader, int document, int position)
            throws IndexOutOfBoundsException, NoSuchElementException {
        Reader found = existingReader(reader);
        Document read = existingDocument(document);
        if (read.symbolAt(position) == NONE) {
            throw new NoSuchElementException("the document has no such position");
        }
        return rankOfPosition(found.counts, read, position);
    }

    public int totalGuesses(int reader, int document) throws IndexOutOfBoundsException {
        Reader found = existingReader(reader);
        return guessesFor(found.counts, existingDocument(document));
    }

    public int adaptiveGuesses(int reader, int document) throws IndexOutOfBoundsException {
        Reader found = existingReader(reader);
        Document read = existingDocument(document);
        trial.copyFrom(found.counts);
        return guessesWhileLearning(trial, read);
    }

    public int firstGuessHits(int reader, int document) throws IndexOutOfBoundsException {
        Reader found = existingReader(reader);
        return hitsFor(found.counts, existingDocument(document));
    }

    public int unseenSymbols(int reader, int document) throws IndexOutOfBoundsException {
        Reader found = existingReader(reader);
        Document read = existingDocument(document);
        int unseen = 0;
        for (int i = 0; i < read.length; i++) {
            if (orderOf(found.counts, read.symbolAt(i - 2), read.symbolAt(i - 1), read.symbolAt(i)) == NONE) {
                unseen++;
            }
        }
        return unseen;
    }

    public int hardestPosition(int reader, int document) throws IndexOutOfBoundsException {
        Reader found = existingReader(reader);
        Document read = existingDocument(document);
        int hardest = 0;
        int greatest = 0;
        for (int i = 0; i < read.length; i++) {
            int needed = rankOfPosition(found.counts, read, i);
            if (needed > greatest) {
                greatest = needed;
                hardest = i;
            }
        }
        return hardest;
    }

    public int totalBits(int reader, int document) throws IndexOutOfBoundsException {
        Reader found = existingReader(reader);
        Document read = existingDocument(document);
        int sum = 0;
        for (int i = 0; i < read.length; i++) {
            chance.find(found, read.symbolAt(i - 2), read.symbolAt(i - 1), read.symbolAt(i));
            sum += chance.bits();
        }
        return sum;
    }

    public double meanGuesses(int reader, int document) throws IndexOutOfBoundsException {
        Reader found = existingReader(reader);
        Document read = existingDocument(document);
        int guesses = guessesFor(found.counts, read);
        return read.length > 0 ? (double) guesses / (double) read.length : 0.0;
    }

    public float hitShare(int reader, int document) throws IndexOutOfBoundsException {
        Reader found = existingReader(reader);
        Document read = existingDocument(document);
        int hits = hitsFor(found.counts, read);
        return read.length > 0 ? (float) hits / (float) read.length : 0.0f;
    }

    // ---- comparing readers and documents

    public int bestReader(int document) throws IndexOutOfBoundsException {
        Document read = existingDocument(document);
        int best = NONE;
        int fewest = MAX_GUESSES + 1;
        for (int i = 0; i < state.readersUsed; i++) {
            int guesses = guessesFor(existingReader(i).counts, read);
            if (guesses < fewest) {
                fewest = guesses;
                best = i;
            }
        }
        return best;
    }

    public int hardestDocument(int reader) throws IndexOutOfBoundsException {
        Reader found = existingReader(reader);
        int hardest = NONE;
        int most = 0;
        for (int i = 0; i < state.documentsUsed; i++) {
            int guesses = guessesFor(found.counts, existingDocument(i));
            if (guesses > most) {
                most = guesses;
                hardest = i;
            }
        }
        return hardest;
    }

    public int guessesAfterTraining(int reader, int trained, int read) throws IndexOutOfBoundsException {
        Reader found = existingReader(reader);
        Document first = existingDocument(trained);
        Document second = existingDocument(read);
        trial.copyFrom(found.counts);
        trial.countDocument(first);
        return guessesFor(trial, second);
    }

    public int trainingsNeeded(int reader, int document, int limit)
            throws IndexOutOfBoundsException, IllegalArgumentException {
        Reader found = existingReader(reader);
        Document read = existingDocument(document);
        if (limit < 1 || limit > MAX_GUESSES) {
            throw new IllegalArgumentException("the limit is out of range");
        }
        trial.copyFrom(found.counts);
        for (int trainings = 0; trainings <= MAX_TRAININGS; trainings++) {
            if (guessesFor(trial, read) <= limit) {
                return trainings;
            }
            trial.countDocument(read);
        }
        return NONE;
    }

    public int yearsToForget(int reader) throws IndexOutOfBoundsException {
        int years = 0;
        for (int rest = existingReader(reader).counts.greatest(); rest > 0; rest /= 2) {
            years++;
        }
        return years;
    }

    public int agreements(int reader, int other) throws IndexOutOfBoundsException, IllegalArgumentException {
        Counts first = existingReader(reader).counts;
        Counts second = existingReader(other).counts;
        if (reader == other) {
            throw new IllegalArgumentException("both are the same reader");
        }
        int agreed = 0;
        for (int pair = 0; pair < PAIRS; pair++) {
            int start = ORDER_2_START + pair * SYMBOLS;
            if ((first.symbolsIn(start) > 0 || second.symbolsIn(start) > 0) && agreeAfter(first, second, pair)) {
                agreed++;
            }
        }
        return agreed;
    }

    // ---- changing the state

    public int addReader(int method) throws IllegalArgumentException, IllegalStateException {
        requireMethod(method);
        if (!input.isName(0, input.length)) {
            throw new IllegalArgumentException("the input buffer is not a name");
        }
        if (state.readersUsed >= MAX_READERS || state.readerNamed(input, 0, input.length) != null) {
            throw new IllegalStateException("there is no room for a reader of this name");
        }
        remember();
        state.putReader(input, 0, input.length, method);
        input.clear();
        return state.readersUsed - 1;
    }

    public int addDocument() throws IllegalArgumentException, IllegalStateException {
        if (!input.isDocument(0, input.length)) {
            throw new IllegalArgumentException("the input buffer is not a document");
        }
        if (state.documentsUsed >= MAX_DOCUMENTS) {
            throw new IllegalStateException("there is no room for a document");
        }
        remember();
        state.putDocument(input, 0, input.length);
        input.clear();
        return state.documentsUsed - 1;
    }

    public int train(int reader, int document) throws IndexOutOfBoundsException {
        Reader found = existingReader(reader);
        Document read = existingDocument(document);
        remember();
        found.counts.countDocument(read);
        found.recordTraining(document, read.length);
        return guessesFor(found.counts, read);
    }

    public int learn(int reader, int document) throws IndexOutOfBoundsException {
        Reader found = existingReader(reader);
        Document read = existingDocument(document);
        remember();
        found.recordTraining(document, read.length);
        return guessesWhileLearning(found.counts, read);
    }

    public int forget(int reader) throws IndexOutOfBoundsException {
        Reader found = existingReader(reader);
        remember();
        int forgotten = found.counts.size;
        found.clearTrainings();
        return forgotten;
    }

    public int setEscapeMethod(int reader, int method) throws IndexOutOfBoundsException, IllegalArgumentException {
        Reader found = existingReader(reader);
        requireMethod(method);
        remember();
        int before = found.method;
        found.method = method;
        return before;
    }

    public int endYear() {
        remember();
        state.passYear();
        return state.currentYear;
    }

    public int merge(int source, int target) throws IndexOutOfBoundsException, IllegalArgumentException {
        Reader from = existingReader(source);
        Reader into = existingReader(target);
        if (source == target) {
            throw new IllegalArgumentException("both are the same reader");
        }
        remember();
        into.takeIn(from);
        return into.counts.size;
    }

    // ---- the output

    public int encode(int reader, int document) throws IndexOutOfBoundsException {
        Reader found = existingReader(reader);
        Document read = existingDocument(document);
        output.clear();
        for (int i = 0; i < read.length; i++) {
            if (i > 0) {
                output.append(',');
            }
            output.appendNumber(rankOfPosition(found.counts, read, i));
        }
        return output.length;
    }

    public int decode(int reader) throws IndexOutOfBoundsException, IllegalArgumentException {
        Reader found = existingReader(reader);
        int length = readRanks();
        if (length == 0) {
            throw new IllegalArgumentException("the input buffer does not contain ranks");
        }
        input.clear();
        writeSymbols(found.counts, decodedRanks, length);
        return output.length;
    }

    public int writeExpected(int reader, int length) throws IndexOutOfBoundsException, IllegalArgumentException {
        Reader found = existingReader(reader);
        if (length < 1 || length > MAX_SYMBOLS) {
            throw new IllegalArgumentException("the length is out of range");
        }
        for (int i = 0; i < MAX_SYMBOLS; i++) {
            decodedRanks[i] = 1;
        }
        writeSymbols(found.counts, decodedRanks, length);
        return output.length;
    }

    public int outputByte(int position) throws NoSuchElementException {
        int found = output.at(position);
        if (found == NONE) {
            throw new NoSuchElementException("the output has no such position");
        }
        return found;
    }

    // ---- slots and undo

    public int save(int slot) throws IndexOutOfBoundsException {
        requireSlot(slot);
        slots[slot].copyFrom(state);
        slotUsed[slot] = true;
        return state.currentYear;
    }

    public int restore(int slot) throws IndexOutOfBoundsException, IllegalStateException {
        requireSlot(slot);
        if (!slotUsed[slot]) {
            throw new IllegalStateException("the slot is empty");
        }
        remember();
        state.copyFrom(slots[slot]);
        return state.currentYear;
    }

    public int undo() throws IllegalStateException {
        if (pastCount == 0) {
            throw new IllegalStateException("no call is remembered");
        }
        pastNext = (pastNext + MAX_UNDO - 1) % MAX_UNDO;
        pastCount--;
        state.copyFrom(past[pastNext]);
        return pastCount;
    }

    public int undoDepth() {
        return pastCount;
    }

    // ---- what the methods share

    // To be called when nothing can fail any more: a call that throws is not remembered.
    private void remember() {
        past[pastNext].copyFrom(state);
        pastNext = (pastNext + 1) % MAX_UNDO;
        pastCount = Math.min(pastCount + 1, MAX_UNDO);
    }

    private Reader existingReader(int reader) {
        Reader found = state.readerAt(reader);
        if (found == null) {
            throw new IndexOutOfBoundsException("the reader does not exist");
        }
        return found;
    }

    private Document existingDocument(int document) {
        Document found = state.documentAt(document);
        if (found == null) {
            throw new IndexOutOfBoundsException("the document does not exist");
        }
        return found;
    }

    private static void requireSlot(int slot) {
        if (slot < 0 || slot >= SLOTS) {
            throw new IndexOutOfBoundsException("the slot does not exist");
        }
    }

    private static void requireMethod(int method) {
        if (method < METHOD_A || method > METHOD_D) {
            throw new IllegalArgumentException("the method is out of range");
        }
    }

    private static void requireSymbol(int symbol) {
        if (!isSymbol(symbol)) {
            throw new IllegalArgumentException("the symbol is not valid");
        }
    }

    private static void requireContext(int beforePrevious, int previous) {
        boolean valid = previous == NONE
            ? beforePrevious == NONE
            : isSymbol(previous) && (beforePrevious == NONE || isSymbol(beforePrevious));
        if (!valid) {
            throw new IllegalArgumentException("the context is not valid");
        }
    }

    private static boolean isSymbol(int symbol) {
        return symbol >= 0 && symbol < SYMBOLS;
    }

    private static int firstOrder(int beforePrevious, int previous) {
        if (previous == NONE) {
            return 0;
        }
        return beforePrevious == NONE ? 1 : 2;
    }

    /** The key of symbol 0 in the table of this order for this context. */
    private static int contextStart(int order, int beforePrevious, int previous) {
        if (order == 0) {
            return 0;
        }
        if (order == 1) {
            return ORDER_1_START + previous * SYMBOLS;
        }
        return ORDER_2_START + (beforePrevious * SYMBOLS + previous) * SYMBOLS;
    }

    private Chance chanceOf(int reader, int beforePrevious, int previous, int symbol) {
        Reader found = existingReader(reader);
        requireContext(beforePrevious, previous);
        requireSymbol(symbol);
        chance.find(found, beforePrevious, previous, symbol);
        return chance;
    }

    private int guessIn(Counts counts, int beforePrevious, int previous, int number) {
        ranking.fill(counts, beforePrevious, previous);
        return ranking.guess(number);
    }

    private int rankIn(Counts counts, int beforePrevious, int previous, int symbol) {
        ranking.fill(counts, beforePrevious, previous);
        return ranking.guessesUntil(symbol);
    }

    private static int orderOf(Counts counts, int beforePrevious, int previous, int symbol) {
        for (int order = firstOrder(beforePrevious, previous); order >= 0; order--) {
            if (counts.valueOf(contextStart(order, beforePrevious, previous) + symbol) > 0) {
                return order;
            }
        }
        return NONE;
    }

    private boolean agreeAfter(Counts first, Counts second, int pair) {
        int beforePrevious = pair / SYMBOLS;
        int previous = pair % SYMBOLS;
        return guessIn(first, beforePrevious, previous, 1) == guessIn(second, beforePrevious, previous, 1);
    }

    private int rankOfPosition(Counts counts, Document read, int position) {
        return rankIn(counts, read.symbolAt(position - 2), read.symbolAt(position - 1), read.symbolAt(position));
    }

    private int guessesFor(Counts counts, Document read) {
        int sum = 0;
        for (int i = 0; i < read.length; i++) {
            sum += rankOfPosition(counts, read, i);
        }
        return sum;
    }

    private int guessesWhileLearning(Counts counts, Document read) {
        int sum = 0;
        for (int i = 0; i < read.length; i++) {
            sum += rankOfPosition(counts, read, i);
            counts.countPosition(read, i);
        }
        return sum;
    }

    private int hitsFor(Counts counts, Document read) {
        int hits = 0;
        for (int i = 0; i < read.length; i++) {
            if (rankOfPosition(counts, read, i) == 1) {
                hits++;
            }
        }
        return hits;
    }

    /** Reads the input buffer into decodedRanks; answers how many ranks it holds, or 0 if it holds anything else. */
    private int readRanks() {
        int size = 0;
        int value = 0;
        for (int i = 0; i <= input.length; i++) {
            int read = input.at(i);
            if (isDigit(read)) {
                value = withDigit(value, read);
            } else {
                // A missing number has the value 0, too, and is refused with it.
                boolean ended = read == ',' || read == NONE;
                if (!ended || value < 1 || value > SYMBOLS || size >= decodedRanks.length) {
                    return 0;
                }
                decodedRanks[size] = value;
                size++;
                value = 0;
            }
        }
        return size;
    }

    private void writeSymbols(Counts counts, int[] ranks, int size) {
        int beforePrevious = NONE;
        int previous = NONE;
        output.clear();
        for (int i = 0; i < size && i < ranks.length; i++) {
            int symbol = guessIn(counts, beforePrevious, previous, ranks[i]);
            output.append(symbol == UNDERSCORE_SYMBOL ? '_' : 'a' + symbol);
            beforePrevious = previous;
            previous = symbol;
        }
    }

    private static boolean isDigit(int value) {
        return value >= '0' && value <= '9';
    }

    private static boolean isLetter(int value) {
        return value >= 'a' && value <= 'z';
    }

    private static int withDigit(int value, int digit) {
        return Math.min(value * 10 + digit - '0', HUGE_NUMBER);
    }

    // ---- the parts

    /** A row of bytes, 0 to 255 each. */
    private static final class Bytes {
        final int[] row = new int[MAX_BYTES];
        int length = 0;

        void clear() {
            length = 0;
        }

        void append(int value) {
            if (length < row.length) {
                row[length] = value;
                length++;
            }
        }

        void appendFour(int value) {
            append(value >>> 24);
            append((value >>> 16) & 255);
            append((value >>> 8) & 255);
            append(value & 255);
        }

        void appendNumber(int value) {
            if (value >= 10) {
                append('0' + value / 10);
            }
            append('0' + value % 10);
        }

        int at(int position) {
            return position >= 0 && position < length ? row[position] : NONE;
        }

        boolean isName(int start, int end) {
            boolean good = end > start && end - start <= MAX_NAME;
            for (int i = start; i < end && good; i++) {
                good = isLetter(at(i));
            }
            return good;
        }

        boolean isDocument(int start, int end) {
            boolean good = end > start && end - start <= MAX_SYMBOLS;
            for (int i = start; i < end && good; i++) {
                good = isLetter(at(i)) || at(i) == '_';
            }
            return good;
        }
    }

    private static final class Document {
        final int[] symbols = new int[MAX_SYMBOLS];
        int length = 0;
        int yearAdded = 0;

        void copyFrom(Document other) {
            System.arraycopy(other.symbols, 0, symbols, 0, MAX_SYMBOLS);
            length = other.length;
            yearAdded = other.yearAdded;
        }

        void take(Bytes text, int start, int end, int currentYear) {
            length = 0;
            for (int i = start; i < end && length < MAX_SYMBOLS; i++) {
                int letter = text.at(i);
                symbols[length] = isLetter(letter) ? letter - 'a' : UNDERSCORE_SYMBOL;
                length++;
            }
            yearAdded = currentYear;
        }

        /** NONE where the document has no symbol, as the context of its first positions asks. */
        int symbolAt(int position) {
            return position >= 0 && position < length ? symbols[position] : NONE;
        }
    }

    /** The positive counts of a reader alone, sorted by key, so that those of a context stand side by side. */
    private static final class Counts {
        final int[] keys = new int[MAX_POSITIVE];
        final int[] values = new int[MAX_POSITIVE];
        int size = 0;

        void copyFrom(Counts other) {
            size = other.size;
            System.arraycopy(other.keys, 0, keys, 0, size);
            System.arraycopy(other.values, 0, values, 0, size);
        }

        /** The number of keys that are smaller, which is the place of this key. */
        int placeOf(int key) {
            int place = 0;
            for (int step = FIRST_SEARCH_STEP; step > 0; step /= 2) {
                int last = place + step - 1;
                if (last < size && keys[last] < key) {
                    place += step;
                }
            }
            return place;
        }

        int valueOf(int key) {
            int place = placeOf(key);
            return place < size && keys[place] == key ? values[place] : 0;
        }

        void add(int key, int amount) {
            int place = placeOf(key);
            if (place < size && keys[place] == key) {
                values[place] = Math.min(values[place] + amount, MAX_COUNT);
            } else if (size < MAX_POSITIVE) {
                System.arraycopy(keys, place, keys, place + 1, size - place);
                System.arraycopy(values, place, values, place + 1, size - place);
                keys[place] = key;
                values[place] = amount;
                size++;
            }
        }

        void addAll(Counts other) {
            for (int i = 0; i < other.size; i++) {
                add(other.keys[i], other.values[i]);
            }
        }

        void countPosition(Document read, int position) {
            int beforePrevious = read.symbolAt(position - 2);
            int previous = read.symbolAt(position - 1);
            for (int order = firstOrder(beforePrevious, previous); order >= 0; order--) {
                add(contextStart(order, beforePrevious, previous) + read.symbolAt(position), 1);
            }
        }

        void countDocument(Document read) {
            for (int i = 0; i < read.length; i++) {
                countPosition(read, i);
            }
        }

        void halve() {
            int kept = 0;
            for (int i = 0; i < size; i++) {
                int half = values[i] / 2;
                if (half > 0) {
                    keys[kept] = keys[i];
                    values[kept] = half;
                    kept++;
                }
            }
            size = kept;
        }

        int symbolsIn(int start) {
            return placeOf(start + SYMBOLS) - placeOf(start);
        }

        int sumIn(int start) {
            int sum = 0;
            for (int i = placeOf(start); i < size && keys[i] < start + SYMBOLS; i++) {
                sum += values[i];
            }
            return sum;
        }

        int pairsUsed() {
            int pairs = 0;
            int latest = NONE;
            for (int i = placeOf(ORDER_2_START); i < size; i++) {
                int pair = (keys[i] - ORDER_2_START) / SYMBOLS;
                if (pair != latest) {
                    pairs++;
                    latest = pair;
                }
            }
            return pairs;
        }

        int greatest() {
            int most = 0;
            for (int i = 0; i < size; i++) {
                most = Math.max(most, values[i]);
            }
            return most;
        }
    }

    private static final class Reader {
        final int[] name = new int[MAX_NAME];
        int nameLength = 0;
        int method = METHOD_A;
        final Counts counts = new Counts();
        int symbolsTrained = 0;
        final int[] trainings = new int[MAX_DOCUMENTS];

        void copyFrom(Reader other) {
            System.arraycopy(other.name, 0, name, 0, MAX_NAME);
            nameLength = other.nameLength;
            method = other.method;
            counts.copyFrom(other.counts);
            symbolsTrained = other.symbolsTrained;
            System.arraycopy(other.trainings, 0, trainings, 0, MAX_DOCUMENTS);
        }

        void begin(Bytes text, int start, int end, int newMethod) {
            nameLength = 0;
            for (int i = start; i < end && nameLength < MAX_NAME; i++) {
                name[nameLength] = text.at(i);
                nameLength++;
            }
            method = newMethod;
            clearTrainings();
        }

        void clearTrainings() {
            counts.size = 0;
            symbolsTrained = 0;
            for (int i = 0; i < MAX_DOCUMENTS; i++) {
                trainings[i] = 0;
            }
        }

        int nameAt(int position) {
            return position >= 0 && position < nameLength ? name[position] : NONE;
        }

        boolean isNamed(Bytes text, int start, int end) {
            boolean same = end - start == nameLength;
            for (int i = 0; i < nameLength && same; i++) {
                same = nameAt(i) == text.at(start + i);
            }
            return same;
        }

        int trainingsOn(int document) {
            return document >= 0 && document < MAX_DOCUMENTS ? trainings[document] : 0;
        }

        void recordTraining(int document, int length) {
            if (document >= 0 && document < MAX_DOCUMENTS) {
                trainings[document]++;
                symbolsTrained += length;
            }
        }

        // Merging to and fro can double the sums at each call: they wrap around, which keeps the training gap at 0.
        void takeIn(Reader other) {
            counts.addAll(other.counts);
            symbolsTrained += other.symbolsTrained;
            for (int i = 0; i < MAX_DOCUMENTS; i++) {
                trainings[i] += other.trainings[i];
            }
        }
    }

    private static final class State {
        final Reader[] readers = new Reader[MAX_READERS];
        int readersUsed = 0;
        final Document[] documents = new Document[MAX_DOCUMENTS];
        int documentsUsed = 0;
        int currentYear = 0;

        State() {
            for (int i = 0; i < MAX_READERS; i++) {
                readers[i] = new Reader();
            }
            for (int i = 0; i < MAX_DOCUMENTS; i++) {
                documents[i] = new Document();
            }
        }

        void copyFrom(State other) {
            readersUsed = other.readersUsed;
            for (int i = 0; i < readersUsed && i < MAX_READERS; i++) {
                readers[i].copyFrom(other.readers[i]);
            }
            documentsUsed = other.documentsUsed;
            for (int i = 0; i < documentsUsed && i < MAX_DOCUMENTS; i++) {
                documents[i].copyFrom(other.documents[i]);
            }
            currentYear = other.currentYear;
        }

        void clear() {
            readersUsed = 0;
            documentsUsed = 0;
            currentYear = 0;
        }

        /** The reader with this name, or null. */
        Reader readerNamed(Bytes text, int start, int end) {
            for (int i = 0; i < readersUsed && i < MAX_READERS; i++) {
                if (readers[i].isNamed(text, start, end)) {
                    return readers[i];
                }
            }
            return null;
        }

        /** The reader with this number, or null. */
        Reader readerAt(int number) {
            return number >= 0 && number < readersUsed ? readers[number] : null;
        }

        /** The document with this number, or null. */
        Document documentAt(int number) {
            return number >= 0 && number < documentsUsed ? documents[number] : null;
        }

        void putReader(Bytes text, int start, int end, int method) {
            if (readersUsed < MAX_READERS) {
                readers[readersUsed].begin(text, start, end, method);
                readersUsed++;
            }
        }

        void putDocument(Bytes text, int start, int end) {
            if (documentsUsed < MAX_DOCUMENTS) {
                documents[documentsUsed].take(text, start, end, currentYear);
                documentsUsed++;
            }
        }

        void passYear() {
            for (int i = 0; i < readersUsed && i < MAX_READERS; i++) {
                readers[i].counts.halve();
            }
            currentYear++;
        }
    }

    /** The ranking of a reader in one context. */
    private static final class Ranking {
        final int[] symbols = new int[SYMBOLS];
        final int[] weights = new int[SYMBOLS];
        int size = 0;
        int placed = 0;

        void fill(Counts counts, int beforePrevious, int previous) {
            size = 0;
            placed = 0;
            for (int order = firstOrder(beforePrevious, previous); order >= 0; order--) {
                appendOrder(counts, contextStart(order, beforePrevious, previous));
            }
            int orderEnd = size;
            for (int symbol = 0; symbol < SYMBOLS; symbol++) {
                insert(orderEnd, symbol, 0);
            }
        }

        private void appendOrder(Counts counts, int start) {
            int orderStart = size;
            for (int i = counts.placeOf(start); i < counts.size && counts.keys[i] < start + SYMBOLS; i++) {
                insert(orderStart, counts.keys[i] - start, counts.values[i]);
            }
        }

        // The symbols of an order come by ascending number, so an equal count must not be overtaken.
        private void insert(int orderStart, int symbol, int weight) {
            int mark = 1 << symbol;
            if ((placed & mark) != 0 || size >= SYMBOLS) {
                return;
            }
            int place = size;
            for (; place > orderStart && weights[place - 1] < weight; place--) {
                symbols[place] = symbols[place - 1];
                weights[place] = weights[place - 1];
            }
            symbols[place] = symbol;
            weights[place] = weight;
            placed |= mark;
            size++;
        }

        int guess(int number) {
            return number >= 1 && number <= size ? symbols[number - 1] : NONE;
        }

        int guessesUntil(int symbol) {
            for (int i = 0; i < size; i++) {
                if (symbols[i] == symbol) {
                    return i + 1;
                }
            }
            return size;
        }
    }

    /** The probability of a symbol in a context, as a fraction in lowest terms. */
    private static final class Chance {
        long top = 1;
        long bottom = 1;
        int escapeFactors = 0;
        int excluded = 0;

        void find(Reader reader, int beforePrevious, int previous, int symbol) {
            top = 1;
            bottom = 1;
            escapeFactors = 0;
            excluded = 0;
            boolean found = false;
            for (int order = firstOrder(beforePrevious, previous); order >= 0 && !found; order--) {
                found = visit(reader.counts, reader.method, contextStart(order, beforePrevious, previous), symbol);
            }
            if (!found) {
                bottom *= SYMBOLS - Integer.bitCount(excluded);
            }
            reduce();
        }

        private boolean visit(Counts counts, int method, int start, int symbol) {
            int sum = 0;
            int symbols = 0;
            int count = 0;
            int met = excluded;
            for (int i = counts.placeOf(start); i < counts.size && counts.keys[i] < start + SYMBOLS; i++) {
                int mark = 1 << (counts.keys[i] - start);
                if ((excluded & mark) == 0) {
                    sum += counts.values[i];
                    symbols++;
                    met |= mark;
                    count = counts.keys[i] - start == symbol ? counts.values[i] : count;
                }
            }
            if (symbols == 0) {
                return false;
            }
            bottom *= divisorFor(method, sum, symbols);
            if (count > 0) {
                top *= method == METHOD_D ? 2 * count - 1 : count;
                return true;
            }
            top *= method == METHOD_A ? 1 : symbols;
            excluded = met;
            escapeFactors++;
            return false;
        }

        private static int divisorFor(int method, int sum, int symbols) {
            if (method == METHOD_A) {
                return sum + 1;
            }
            return method == METHOD_C ? sum + symbols : 2 * sum;
        }

        private void reduce() {
            long divisor = bottom;
            long rest = top;
            for (int i = 0; i < MAX_DIVISIONS && rest != 0; i++) {
                long next = divisor % rest;
                divisor = rest;
                rest = next;
            }
            if (divisor > 1) {
                top /= divisor;
                bottom /= divisor;
            }
        }

        // A denominator stays below 2 to the power 53, so the doubled numerator can't overflow.
        int bits() {
            int length = 0;
            for (long doubled = top; doubled < bottom && length < 62; doubled *= 2) {
                length++;
            }
            return length;
        }
    }

    /** Executes a text on a state, which is to be thrown away if the text has an error. */
    private static final class Parser {
        static final int END = 0, WORD = 1, NUMBER = 2, OTHER = 3;

        final Bytes text;
        final State target;
        int kind = END;
        int tokenStart = 0;
        int tokenEnd = 0;
        int errorCode = 0;
        int errorPosition = NONE;

        Parser(Bytes text, State target) {
            this.text = text;
            this.target = target;
        }

        boolean parseAll() {
            boolean good = true;
            next();
            for (int i = 0; i <= MAX_BYTES && good && kind != END; i++) {
                if (isWord("reader")) {
                    good = parseReader();
                } else if (isWord("document")) {
                    good = parseDocument();
                } else if (isWord("train")) {
                    good = parseTrain();
                } else if (isWord("year")) {
                    good = parseYear();
                } else {
                    good = fail(1);
                }
            }
            return good;
        }

        private boolean parseReader() {
            if (target.readersUsed >= MAX_READERS) {
                return fail(5);
            }
            next();
            if (kind != WORD) {
                return fail(1);
            }
            if (!text.isName(tokenStart, tokenEnd)) {
                return fail(2);
            }
            if (target.readerNamed(text, tokenStart, tokenEnd) != null) {
                return fail(3);
            }
            int nameStart = tokenStart;
            int nameEnd = tokenEnd;
            next();
            int method = methodWord();
            if (method == NONE) {
                return fail(1);
            }
            if (!parseSemicolon()) {
                return false;
            }
            target.putReader(text, nameStart, nameEnd, method);
            return true;
        }

        private boolean parseDocument() {
            if (target.documentsUsed >= MAX_DOCUMENTS) {
                return fail(5);
            }
            next();
            if (kind != WORD) {
                return fail(1);
            }
            if (!text.isDocument(tokenStart, tokenEnd)) {
                return fail(2);
            }
            int wordStart = tokenStart;
            int wordEnd = tokenEnd;
            if (!parseSemicolon()) {
                return false;
            }
            target.putDocument(text, wordStart, wordEnd);
            return true;
        }

        private boolean parseTrain() {
            next();
            if (kind != WORD) {
                return fail(1);
            }
            Reader trained = target.readerNamed(text, tokenStart, tokenEnd);
            if (trained == null) {
                return fail(4);
            }
            next();
            if (kind != NUMBER) {
                return fail(1);
            }
            int number = numberValue();
            Document read = target.documentAt(number);
            if (read == null) {
                return fail(2);
            }
            if (!parseSemicolon()) {
                return false;
            }
            trained.counts.countDocument(read);
            trained.recordTraining(number, read.length);
            return true;
        }

        private boolean parseYear() {
            if (!parseSemicolon()) {
                return false;
            }
            target.passYear();
            return true;
        }

        /** Goes on from the last token of a statement to the first one of the next statement. */
        private boolean parseSemicolon() {
            next();
            if (kind != OTHER || text.at(tokenStart) != ';') {
                return fail(1);
            }
            next();
            return true;
        }

        private boolean fail(int code) {
            errorCode = code;
            errorPosition = tokenStart;
            return false;
        }

        private void next() {
            int start = tokenEnd;
            while (start < text.length && isBlank(text.at(start))) {
                start++;
            }
            tokenStart = start;
            tokenEnd = start < text.length ? start + 1 : start;
            kind = kindOf(text.at(start));
            if (kind == WORD || kind == NUMBER) {
                while (tokenEnd < text.length && kindOf(text.at(tokenEnd)) == kind) {
                    tokenEnd++;
                }
            }
        }

        private static boolean isBlank(int value) {
            return value == ' ' || value == '\n';
        }

        private static int kindOf(int value) {
            if (value == NONE) {
                return END;
            }
            if (isLetter(value) || value == '_') {
                return WORD;
            }
            return isDigit(value) ? NUMBER : OTHER;
        }

        private boolean isWord(String word) {
            boolean same = tokenEnd - tokenStart == word.length();
            for (int i = 0; i < word.length() && same; i++) {
                same = text.at(tokenStart + i) == word.charAt(i);
            }
            return same;
        }

        private int methodWord() {
            if (isWord("a")) {
                return METHOD_A;
            }
            if (isWord("c")) {
                return METHOD_C;
            }
            return isWord("d") ? METHOD_D : NONE;
        }

        private int numberValue() {
            int value = 0;
            for (int i = tokenStart; i < tokenEnd; i++) {
                value = withDigit(value, text.at(i));
            }
            return value;
        }
    }
}
