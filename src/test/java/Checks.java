/** Counts the answers that are not as due. */
final class Checks {
    interface Call {
        double answer();
    }

    private int wrong = 0;
    private int made = 0;
    private String about = "";

    /** What the faults told from now on are about. */
    void about(String what) {
        about = what;
    }

    int made() {
        return made;
    }

    /** All answers of the face, the long ones too, are exact as a double. */
    void due(String what, double want, Call call) {
        made++;
        try {
            double got = call.answer();
            if (got != want) {
                tell(what + " answered " + got + ", due is " + want);
            }
        } catch (RuntimeException e) {
            tell(what + " threw " + e + ", due is " + want);
        }
    }

    void refused(String what, Class<? extends RuntimeException> want, Call call) {
        made++;
        try {
            double got = call.answer();
            tell(what + " answered " + got + ", due is " + want.getSimpleName());
        } catch (RuntimeException e) {
            if (e.getClass() != want) {
                tell(what + " threw " + e + ", due is " + want.getSimpleName());
            }
        }
    }

    void hold(String what, boolean good) {
        made++;
        if (!good) {
            tell(what + " does not hold");
        }
    }

    void tell(String fault) {
        wrong++;
        if (wrong <= 50) {
            System.out.println(about + fault);
        }
    }

    /** Ends the program with 1 if an answer was wrong. */
    void end() {
        System.out.println(made + " checks, " + wrong + " wrong");
        if (wrong > 0) {
            System.exit(1);
        }
    }

    /** Appends a text to the input buffer, one char a byte. */
    static void type(TrigramReaders x, String text) {
        int before = lengthOf(x);
        for (int at = 0; at < text.length(); at += 20) {
            x.appendInput(four(text, at), four(text, at + 4), four(text, at + 8), four(text, at + 12), four(text, at + 16));
        }
        x.truncateInput(before + text.length());
    }

    /** The length of an input buffer of at most 480 bytes: no method asks for it, but appendInput answers it. */
    static int lengthOf(TrigramReaders x) {
        return x.truncateInput(x.appendInput(0, 0, 0, 0, 0) - 20);
    }

    static int four(String text, int at) {
        int value = 0;
        for (int i = at; i < at + 4; i++) {
            value = value << 8 | (i < text.length() ? text.charAt(i) & 255 : 0);
        }
        return value;
    }

    static String output(TrigramReaders x, int length) {
        StringBuilder text = new StringBuilder();
        for (int i = 0; i < length; i++) {
            text.append((char) x.outputByte(i));
        }
        return text.toString();
    }
}
