import java.nio.charset.StandardCharsets;

/** A new object and the calls on it: no more than 512, as the document promises nothing of later ones. */
final class Run {
    static final int MAX_CALLS = 512;

    private final WordTerms object = new WordTerms();
    private int calls = 0;

    /** An object whose text is made of these words, and whose tape is empty. */
    static Run ofText(String words) {
        Run run = new Run();
        run.type(words);
        run.read();
        return run;
    }

    int calls() {
        return calls;
    }

    int feed(int a, int b, int c, int d, int e) {
        return called().feed(a, b, c, d, e);
    }

    int end(int n) {
        return called().end(n);
    }

    int read() {
        return called().read();
    }

    int sign(int k, int i) {
        return called().sign(k, i);
    }

    int different() {
        return called().different();
    }

    int first(int k) {
        return called().first(k);
    }

    int compare(int k, int j) {
        return called().compare(k, j);
    }

    int apart(int k) {
        return called().apart(k);
    }

    int nearest() {
        return called().nearest();
    }

    int plain() {
        return called().plain();
    }

    private WordTerms called() {
        calls++;
        if (calls > MAX_CALLS) {
            throw new IllegalStateException("the test calls an object more than " + MAX_CALLS + " times");
        }
        return object;
    }

    /** Feeds twenty bytes that are one character each. */
    int feed(String twenty) {
        byte[] bytes = twenty.getBytes(StandardCharsets.ISO_8859_1);
        return feed(four(bytes, 0), four(bytes, 4), four(bytes, 8), four(bytes, 12), four(bytes, 16));
    }

    /** Puts the text behind what the tape has, and cuts off the zeros that fill the last feed. */
    void type(String text) {
        if (text.isEmpty()) {
            return;
        }
        int before = 0;
        for (int from = 0; from < text.length(); from += 20) {
            int after = feed(text.substring(from, Math.min(from + 20, text.length())));
            if (after < 0) {
                throw new IllegalStateException("no room on the tape for " + text);
            }
            before = from == 0 ? after - 20 : before;
        }
        end(before + text.length());
    }

    /** How many calls type makes of this text. */
    static int callsToType(String text) {
        return (text.length() + 19) / 20 + 1;
    }

    private static int four(byte[] bytes, int from) {
        int all = 0;
        for (int i = from; i < from + 4; i++) {
            all = all << 8 | (i < bytes.length ? bytes[i] & 255 : 0);
        }
        return all;
    }

    /** How many bytes the tape has, which it has afterwards too. */
    int onTape() {
        int n = feed(0, 0, 0, 0, 0) - 20;
        if (n >= 0) {
            return end(n);
        }
        for (n = 300; n > 280 && end(n) != n; n--) {
            continue;
        }
        return n;
    }

    /** Term k as sign tells it. */
    String term(int k) {
        StringBuilder signs = new StringBuilder();
        int length = sign(k, -1);
        for (int i = 0; i < length; i++) {
            signs.append((char) sign(k, i));
        }
        return signs.toString();
    }

    /** All terms of the text, with a blank between two. */
    String terms() {
        StringBuilder all = new StringBuilder();
        for (int k = 0; sign(k, -1) != WordTerms.NONE; k++) {
            all.append(k == 0 ? "" : " ").append(term(k));
        }
        return all.toString();
    }
}
