/** All that an object tells of itself, as one text. Asking for the whole spoils the object: it undoes and restores. */
final class Snapshot {
    private static final int[] SOME_SYMBOLS = {0, 1, 2, 13, 24, 25, 26};

    private final TrigramReaders x;
    private final StringBuilder text = new StringBuilder();

    private Snapshot(TrigramReaders x) {
        this.x = x;
    }

    /** The state as section 7 has it, and nothing else. */
    static String state(TrigramReaders x) {
        Snapshot s = new Snapshot(x);
        s.addState();
        return s.text.toString();
    }

    static String whole(TrigramReaders x) {
        Snapshot s = new Snapshot(x);
        s.addState();
        s.add("error", x.errorCode(), x.errorPosition());
        s.addOutput();
        s.add("input", inputLength(x));
        s.addPast();
        s.addSlot(0);
        s.addSlot(1);
        s.addInput();
        return s.text.toString();
    }

    /** The length of any input buffer: no method asks for it, but the greatest length that can be kept tells it. */
    static int inputLength(TrigramReaders x) {
        try {
            return x.truncateInput(x.appendInput(0, 0, 0, 0, 0) - 20);
        } catch (IllegalStateException full) {
            int length = 500;
            while (!fits(x, length)) {
                length--;
            }
            return length;
        }
    }

    private static boolean fits(TrigramReaders x, int length) {
        try {
            return x.truncateInput(length) == length;
        } catch (IllegalArgumentException tooLong) {
            return false;
        }
    }

    private void add(String what, int... values) {
        text.append(what);
        for (int value : values) {
            text.append(' ').append(value);
        }
        text.append('\n');
    }

    private void addState() {
        add("state", x.year(), x.readerCount(), x.documentCount());
        for (int document = 0; document < x.documentCount(); document++) {
            int length = x.documentLength(document);
            add("document", length, x.documentYear(document), x.documentSymbol(document, 0),
                x.documentSymbol(document, length / 2), x.documentSymbol(document, length - 1));
        }
        for (int reader = 0; reader < x.readerCount(); reader++) {
            addReader(reader);
        }
    }

    private void addReader(int reader) {
        addName(reader);
        add("reader", x.escapeMethod(reader), x.positiveCounts(reader), x.order2Contexts(reader),
            x.trainedSymbols(reader), x.yearsToForget(reader));
        for (int symbol : SOME_SYMBOLS) {
            add("count", x.countOrder0(reader, symbol));
        }
        for (int document = 0; document < x.documentCount(); document++) {
            add("read", x.timesTrained(reader, document), x.totalGuesses(reader, document), x.totalBits(reader, document));
        }
    }

    private void addName(int reader) {
        for (int i = 0; ; i++) {
            try {
                text.append((char) x.readerNameByte(reader, i));
            } catch (java.util.NoSuchElementException end) {
                text.append('\n');
                return;
            }
        }
    }

    private void addOutput() {
        for (int i = 0; ; i++) {
            try {
                text.append((char) x.outputByte(i));
            } catch (java.util.NoSuchElementException end) {
                text.append('\n');
                return;
            }
        }
    }

    private void addBriefly(String what) {
        add(what, x.year(), x.readerCount(), x.documentCount(), x.readerCount() > 0 ? x.trainedSymbols(0) : -1);
    }

    private void addPast() {
        for (int left = x.undoDepth(); left > 0; left--) {
            add("undo", x.undo());
            addBriefly("before");
        }
    }

    private void addSlot(int slot) {
        try {
            add("slot", x.restore(slot));
            addBriefly("kept");
        } catch (IllegalStateException empty) {
            add("empty slot", slot);
        }
    }

    /** What the input buffer holds, if it is a document; otherwise where it is no text. */
    private void addInput() {
        try {
            int document = x.addDocument();
            for (int i = 0; i < x.documentLength(document); i++) {
                add("input", x.documentSymbol(document, i));
            }
        } catch (IllegalArgumentException | IllegalStateException other) {
            try {
                add("text", x.load());
            } catch (IllegalArgumentException error) {
                add("no text", x.errorCode(), x.errorPosition());
            }
        }
    }
}
