import java.math.BigInteger;
import java.util.ArrayDeque;
import java.util.ArrayList;
import java.util.Comparator;
import java.util.HashMap;
import java.util.LinkedHashSet;
import java.util.List;
import java.util.Map;
import java.util.NoSuchElementException;
import java.util.Set;
import java.util.TreeMap;

/** The document written down a second time, as slowly and as literally as possible, to compare the class with. */
final class TrigramModel {
    static final String ALPHABET = "abcdefghijklmnopqrstuvwxyz_";

    static final class Reader {
        String name;
        int method;
        /** The counts of all orders; the key is the text of the context and the symbol. */
        Map<String, Integer> counts = new HashMap<>();
        Map<Integer, Integer> records = new TreeMap<>();
        int trained;

        Reader copy() {
            Reader r = new Reader();
            r.name = name;
            r.method = method;
            r.counts = new HashMap<>(counts);
            r.records = new TreeMap<>(records);
            r.trained = trained;
            return r;
        }

        int count(String key) {
            return counts.getOrDefault(key, 0);
        }

        void increment(String key) {
            counts.put(key, Math.min(999, count(key) + 1));
        }

        void see(String text, int i) {
            for (int before = 0; before <= 2 && before <= i; before++) {
                increment(text.substring(i - before, i + 1));
            }
        }

        void see(String text) {
            for (int i = 0; i < text.length(); i++) {
                see(text, i);
            }
        }

        int positive() {
            return (int) counts.values().stream().filter(v -> v > 0).count();
        }

        List<Character> ranking(String context) {
            Set<Character> all = new LinkedHashSet<>();
            for (String c = context; ; c = c.substring(1)) {
                String here = c;
                List<Character> found = new ArrayList<>();
                for (char s : ALPHABET.toCharArray()) {
                    if (count(here + s) > 0) {
                        found.add(s);
                    }
                }
                found.sort(Comparator.comparingInt((Character s) -> -count(here + s)).thenComparingInt(ALPHABET::indexOf));
                all.addAll(found);
                if (c.isEmpty()) {
                    break;
                }
            }
            for (char s : ALPHABET.toCharArray()) {
                all.add(s);
            }
            return new ArrayList<>(all);
        }

        int rank(String context, char symbol) {
            return ranking(context).indexOf(symbol) + 1;
        }

        int order(String context, char symbol) {
            for (int order = context.length(); order >= 0; order--) {
                if (count(context.substring(context.length() - order) + symbol) > 0) {
                    return order;
                }
            }
            return -1;
        }

        /** numerator, denominator, escapes */
        BigInteger[] chance(String context, char symbol) {
            BigInteger top = BigInteger.ONE;
            BigInteger bottom = BigInteger.ONE;
            int escapes = 0;
            Set<Character> excluded = new LinkedHashSet<>();
            boolean found = false;
            for (int order = context.length(); order >= 0 && !found; order--) {
                String c = context.substring(context.length() - order);
                List<Character> here = new ArrayList<>();
                long n = 0;
                for (char s : ALPHABET.toCharArray()) {
                    if (count(c + s) > 0 && !excluded.contains(s)) {
                        here.add(s);
                        n += count(c + s);
                    }
                }
                long d = here.size();
                if (d == 0) {
                    continue;
                }
                found = here.contains(symbol);
                long k = count(c + symbol);
                long up = found ? (method == 2 ? 2 * k - 1 : k) : method == 0 ? 1 : d;
                long down = method == 0 ? n + 1 : method == 1 ? n + d : 2 * n;
                top = top.multiply(BigInteger.valueOf(up));
                bottom = bottom.multiply(BigInteger.valueOf(down));
                if (!found) {
                    escapes++;
                    excluded.addAll(here);
                }
            }
            if (!found) {
                bottom = bottom.multiply(BigInteger.valueOf(27 - excluded.size()));
            }
            BigInteger g = top.gcd(bottom);
            return new BigInteger[] {top.divide(g), bottom.divide(g), BigInteger.valueOf(escapes)};
        }

        int bits(String context, char symbol) {
            BigInteger[] p = chance(context, symbol);
            int k = 0;
            while (p[0].shiftLeft(k).compareTo(p[1]) < 0) {
                k++;
            }
            return k;
        }

        int[] ranks(String text) {
            int[] ranks = new int[text.length()];
            for (int i = 0; i < ranks.length; i++) {
                ranks[i] = rank(context(text, i), text.charAt(i));
            }
            return ranks;
        }

        int guesses(String text) {
            int sum = 0;
            for (int r : ranks(text)) {
                sum += r;
            }
            return sum;
        }

        int learning(String text) {
            int sum = 0;
            for (int i = 0; i < text.length(); i++) {
                sum += rank(context(text, i), text.charAt(i));
                see(text, i);
            }
            return sum;
        }

        Set<String> pairs() {
            Set<String> pairs = new LinkedHashSet<>();
            counts.forEach((k, v) -> {
                if (k.length() == 3 && v > 0) {
                    pairs.add(k.substring(0, 2));
                }
            });
            return pairs;
        }
    }

    static final class State {
        int year;
        List<Reader> readers = new ArrayList<>();
        List<String> documents = new ArrayList<>();
        List<Integer> years = new ArrayList<>();

        State copy() {
            State s = new State();
            s.year = year;
            readers.forEach(r -> s.readers.add(r.copy()));
            s.documents.addAll(documents);
            s.years.addAll(years);
            return s;
        }

        Reader reader(int i) {
            if (i < 0 || i >= readers.size()) {
                throw new IndexOutOfBoundsException();
            }
            return readers.get(i);
        }

        String document(int i) {
            if (i < 0 || i >= documents.size()) {
                throw new IndexOutOfBoundsException();
            }
            return documents.get(i);
        }

        Reader named(String name) {
            return readers.stream().filter(r -> r.name.equals(name)).findFirst().orElse(null);
        }

        void train(Reader r, int document) {
            r.see(documents.get(document));
            record(r, document);
        }

        void record(Reader r, int document) {
            r.records.merge(document, 1, Integer::sum);
            r.trained += documents.get(document).length();
        }

        void endYear() {
            readers.forEach(r -> r.counts.replaceAll((k, v) -> v / 2));
            year++;
        }

        void addReader(String name, int method) {
            Reader r = new Reader();
            r.name = name;
            r.method = method;
            readers.add(r);
        }

        void addDocument(String text) {
            documents.add(text);
            years.add(year);
        }
    }

    State state;
    String input = "";
    String output = "";
    int errorCode = 0;
    int errorPosition = -1;
    final ArrayDeque<State> past = new ArrayDeque<>();
    final State[] slots = new State[2];

    TrigramModel() {
        state = parse("reader ann a;reader bob c;document abra_cadabra;document banana;"
            + "train ann 0;train bob 0;train bob 1;year;train ann 1;");
    }

    static String context(String text, int i) {
        return text.substring(Math.max(0, i - 2), i);
    }

    void remember() {
        past.addLast(state.copy());
        if (past.size() > 8) {
            past.removeFirst();
        }
    }

    static String context(int beforePrevious, int previous) {
        illegal(beforePrevious < -1 || beforePrevious > 26 || previous < -1 || previous > 26);
        illegal(previous == -1 && beforePrevious != -1);
        return (beforePrevious == -1 ? "" : "" + ALPHABET.charAt(beforePrevious))
            + (previous == -1 ? "" : "" + ALPHABET.charAt(previous));
    }

    static char symbol(int symbol) {
        illegal(symbol < 0 || symbol > 26);
        return ALPHABET.charAt(symbol);
    }

    static void illegal(boolean bad) {
        if (bad) {
            throw new IllegalArgumentException();
        }
    }

    // ---- the parser: tokens first, then statements

    record Token(String text, int at) {
        boolean word() {
            return text.matches("[a-z_]+");
        }

        boolean number() {
            return text.matches("[0-9]+");
        }
    }

    /** Answers null and stores the error if the text has one. */
    State parse(String text) {
        List<Token> tokens = new ArrayList<>();
        var matcher = java.util.regex.Pattern.compile("(?s)[a-z_]+|[0-9]+|[^ \n]").matcher(text);
        while (matcher.find()) {
            tokens.add(new Token(matcher.group(), matcher.start()));
        }
        Token end = new Token("", text.length());
        State s = new State();
        for (int i = 0; i < tokens.size(); ) {
            Token[] t = new Token[5];
            for (int j = 0; j < 5; j++) {
                t[j] = i + j < tokens.size() ? tokens.get(i + j) : end;
            }
            int semicolon;
            switch (t[0].text) {
                case "reader" -> {
                    if (s.readers.size() == 4) return error(5, t[0]);
                    if (!t[1].word()) return error(1, t[1]);
                    if (t[1].text.length() > 4 || t[1].text.contains("_")) return error(2, t[1]);
                    if (s.named(t[1].text) != null) return error(3, t[1]);
                    if (!t[2].text.matches("[acd]")) return error(1, t[2]);
                    semicolon = 3;
                }
                case "document" -> {
                    if (s.documents.size() == 8) return error(5, t[0]);
                    if (!t[1].word()) return error(1, t[1]);
                    if (t[1].text.length() > 40) return error(2, t[1]);
                    semicolon = 2;
                }
                case "train" -> {
                    if (!t[1].word()) return error(1, t[1]);
                    if (s.named(t[1].text) == null) return error(4, t[1]);
                    if (!t[2].number()) return error(1, t[2]);
                    if (new BigInteger(t[2].text).compareTo(BigInteger.valueOf(s.documents.size())) >= 0) return error(2, t[2]);
                    semicolon = 3;
                }
                case "year" -> semicolon = 1;
                default -> {
                    return error(1, t[0]);
                }
            }
            if (!t[semicolon].text.equals(";")) return error(1, t[semicolon]);
            switch (t[0].text) {
                case "reader" -> s.addReader(t[1].text, "acd".indexOf(t[2].text));
                case "document" -> s.addDocument(t[1].text);
                case "train" -> s.train(s.named(t[1].text), new BigInteger(t[2].text).intValue());
                default -> s.endYear();
            }
            i += semicolon + 1;
        }
        errorCode = 0;
        errorPosition = -1;
        return s;
    }

    State error(int code, Token token) {
        errorCode = code;
        errorPosition = token.at;
        return null;
    }

    // ---- the calls

    Object call(String name, int[] a) {
        switch (name) {
            case "appendInput":
                if (input.length() + 20 > 500) {
                    throw new IllegalStateException();
                }
                StringBuilder more = new StringBuilder(input);
                for (int word : a) {
                    for (int shift = 24; shift >= 0; shift -= 8) {
                        more.append((char) (word >> shift & 255));
                    }
                }
                input = more.toString();
                return input.length();
            case "truncateInput":
                illegal(a[0] < 0 || a[0] > input.length());
                input = input.substring(0, a[0]);
                return input.length();
            case "load":
                State parsed = parse(input);
                input = "";
                illegal(parsed == null);
                remember();
                state = parsed;
                return state.readers.size();
            case "errorCode": return errorCode;
            case "errorPosition": return errorPosition;
            case "year": return state.year;
            case "readerCount": return state.readers.size();
            case "documentCount": return state.documents.size();
            case "addReader":
                illegal(a[0] < 0 || a[0] > 2 || !input.matches("[a-z]{1,4}"));
                if (state.readers.size() == 4 || state.named(input) != null) {
                    throw new IllegalStateException();
                }
                remember();
                state.addReader(input, a[0]);
                input = "";
                return state.readers.size() - 1;
            case "addDocument":
                illegal(!input.matches("[a-z_]{1,40}"));
                if (state.documents.size() == 8) {
                    throw new IllegalStateException();
                }
                remember();
                state.addDocument(input);
                input = "";
                return state.documents.size() - 1;
            case "endYear":
                remember();
                state.endYear();
                return state.year;
            case "outputByte":
                return (int) at(output, a[0]);
            case "save":
                slot(a[0]);
                slots[a[0]] = state.copy();
                return state.year;
            case "restore":
                slot(a[0]);
                if (slots[a[0]] == null) {
                    throw new IllegalStateException();
                }
                remember();
                state = slots[a[0]].copy();
                return state.year;
            case "undo":
                if (past.isEmpty()) {
                    throw new IllegalStateException();
                }
                state = past.removeLast();
                return past.size();
            case "undoDepth": return past.size();
            case "documentLength": return state.document(a[0]).length();
            case "documentSymbol": return ALPHABET.indexOf(at(state.document(a[0]), a[1]));
            case "documentYear":
                state.document(a[0]);
                return state.years.get(a[0]);
            case "bestReader":
                return smallest(state.readers.stream().map(r -> r.guesses(state.document(a[0]))).toList(), a[0]);
            default:
                return callReader(name, state.reader(a[0]), a);
        }
    }

    int smallest(List<Integer> guesses, int document) {
        state.document(document);
        int best = -1;
        for (int i = 0; i < guesses.size(); i++) {
            if (best == -1 || guesses.get(i) < guesses.get(best)) {
                best = i;
            }
        }
        return best;
    }

    static char at(String text, int position) {
        if (position < 0 || position >= text.length()) {
            throw new NoSuchElementException();
        }
        return text.charAt(position);
    }

    static void slot(int slot) {
        if (slot != 0 && slot != 1) {
            throw new IndexOutOfBoundsException();
        }
    }

    Object callReader(String name, Reader r, int[] a) {
        switch (name) {
            case "readerNameByte": return (int) at(r.name, a[1]);
            case "escapeMethod": return r.method;
            case "countOrder0": return r.count("" + symbol(a[1]));
            case "countOrder1": return r.count("" + symbol(a[1]) + symbol(a[2]));
            case "countOrder2": return r.count("" + symbol(a[1]) + symbol(a[2]) + symbol(a[3]));
            case "contextTotal": {
                String c = context(a[1], a[2]);
                return ALPHABET.chars().map(s -> r.count(c + (char) s)).sum();
            }
            case "contextSymbols": {
                String c = context(a[1], a[2]);
                return (int) ALPHABET.chars().filter(s -> r.count(c + (char) s) > 0).count();
            }
            case "order2Contexts": return r.pairs().size();
            case "positiveCounts": return r.positive();
            case "trainedSymbols": return r.trained;
            case "trainingGap": return 0;
            case "symbolAtRank": {
                String c = context(a[1], a[2]);
                illegal(a[3] < 1 || a[3] > 27);
                return ALPHABET.indexOf(r.ranking(c).get(a[3] - 1));
            }
            case "rank": return r.rank(context(a[1], a[2]), symbol(a[3]));
            case "foundOrder": return r.order(context(a[1], a[2]), symbol(a[3]));
            case "escapes": return r.chance(context(a[1], a[2]), symbol(a[3]))[2].intValueExact();
            case "numerator": return r.chance(context(a[1], a[2]), symbol(a[3]))[0].longValueExact();
            case "denominator": return r.chance(context(a[1], a[2]), symbol(a[3]))[1].longValueExact();
            case "probability": {
                BigInteger[] p = r.chance(context(a[1], a[2]), symbol(a[3]));
                return (double) p[0].longValueExact() / (double) p[1].longValueExact();
            }
            case "codeLength": return r.bits(context(a[1], a[2]), symbol(a[3]));
            case "hardestDocument": {
                int hardest = -1;
                for (int i = 0; i < state.documents.size(); i++) {
                    if (hardest == -1 || r.guesses(state.documents.get(i)) > r.guesses(state.documents.get(hardest))) {
                        hardest = i;
                    }
                }
                return hardest;
            }
            case "yearsToForget": {
                Reader copy = r.copy();
                int years = 0;
                for (; copy.positive() > 0; years++) {
                    copy.counts.replaceAll((k, v) -> v / 2);
                }
                return years;
            }
            case "agreements": {
                Reader other = state.reader(a[1]);
                illegal(r == other);
                Set<String> pairs = new LinkedHashSet<>(r.pairs());
                pairs.addAll(other.pairs());
                return (int) pairs.stream().filter(p -> r.ranking(p).get(0) == other.ranking(p).get(0)).count();
            }
            case "forget": {
                remember();
                int positive = r.positive();
                r.counts.clear();
                r.records.clear();
                r.trained = 0;
                return positive;
            }
            case "setEscapeMethod": {
                illegal(a[1] < 0 || a[1] > 2);
                remember();
                int before = r.method;
                r.method = a[1];
                return before;
            }
            case "merge": {
                Reader target = state.reader(a[1]);
                illegal(r == target);
                remember();
                r.counts.forEach((k, v) -> target.counts.merge(k, v, (p, q) -> Math.min(999, p + q)));
                r.records.forEach((k, v) -> target.records.merge(k, v, Integer::sum));
                target.trained += r.trained;
                return target.positive();
            }
            case "decode": {
                illegal(!input.matches("0*([1-9]|1[0-9]|2[0-7])(,0*([1-9]|1[0-9]|2[0-7])){0,39}"));
                output = "";
                for (String number : input.split(",")) {
                    output += r.ranking(context(output, output.length())).get(new BigInteger(number).intValue() - 1);
                }
                input = "";
                return output.length();
            }
            case "writeExpected": {
                illegal(a[1] < 1 || a[1] > 40);
                output = "";
                while (output.length() < a[1]) {
                    output += r.ranking(context(output, output.length())).get(0);
                }
                return output.length();
            }
            default:
                return callDocument(name, r, state.document(a[1]), a);
        }
    }

    Object callDocument(String name, Reader r, String text, int[] a) {
        switch (name) {
            case "timesTrained": return r.records.getOrDefault(a[1], 0);
            case "rankAt":
                at(text, a[2]);
                return r.ranks(text)[a[2]];
            case "totalGuesses": return r.guesses(text);
            case "adaptiveGuesses": return r.copy().learning(text);
            case "firstGuessHits": return hits(r, text);
            case "unseenSymbols": {
                int unseen = 0;
                for (int i = 0; i < text.length(); i++) {
                    unseen += r.order(context(text, i), text.charAt(i)) == -1 ? 1 : 0;
                }
                return unseen;
            }
            case "hardestPosition": {
                int[] ranks = r.ranks(text);
                int hardest = 0;
                for (int i = 0; i < ranks.length; i++) {
                    hardest = ranks[i] > ranks[hardest] ? i : hardest;
                }
                return hardest;
            }
            case "totalBits": {
                int sum = 0;
                for (int i = 0; i < text.length(); i++) {
                    sum += r.bits(context(text, i), text.charAt(i));
                }
                return sum;
            }
            case "meanGuesses": return (double) r.guesses(text) / (double) text.length();
            case "hitShare": return (float) hits(r, text) / (float) text.length();
            case "guessesAfterTraining": {
                Reader copy = r.copy();
                String second = state.document(a[2]);
                copy.see(text);
                return copy.guesses(second);
            }
            case "trainingsNeeded": {
                illegal(a[2] < 1 || a[2] > 1080);
                Reader copy = r.copy();
                for (int t = 0; t <= 20; t++) {
                    if (copy.guesses(text) <= a[2]) {
                        return t;
                    }
                    copy.see(text);
                }
                return -1;
            }
            case "train":
                remember();
                state.train(r, a[1]);
                return r.guesses(text);
            case "learn":
                remember();
                state.record(r, a[1]);
                return r.learning(text);
            case "encode": {
                List<String> ranks = new ArrayList<>();
                for (int rank : r.ranks(text)) {
                    ranks.add("" + rank);
                }
                output = String.join(",", ranks);
                return output.length();
            }
            default:
                throw new AssertionError("no such method: " + name);
        }
    }

    static int hits(Reader r, String text) {
        int hits = 0;
        for (int rank : r.ranks(text)) {
            hits += rank == 1 ? 1 : 0;
        }
        return hits;
    }
}
