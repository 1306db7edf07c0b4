import java.nio.charset.StandardCharsets;

/** What the tests share: counting wrong answers, and putting texts on a tape. */
final class Check {
    private final String test;
    private int wrong = 0;

    Check(String test) {
        this.test = test;
    }

    void due(String what, Object got, Object want) {
        if (!got.equals(want)) {
            wrong++;
            System.out.println(test + ": " + what + " answered " + got + ", due is " + want);
        }
    }

    void finish() {
        System.out.println(test + (wrong == 0 ? ": all answers are as due" : ": " + wrong + " answers are not as due"));
        if (wrong != 0) {
            System.exit(1);
        }
    }

    /** Puts the text on an empty tape and cuts off the zeros that fill the last feed. */
    static void type(WordTerms x, String text) {
        byte[] bytes = text.getBytes(StandardCharsets.ISO_8859_1);
        for (int from = 0; from < bytes.length; from += 20) {
            x.feed(four(bytes, from), four(bytes, from + 4), four(bytes, from + 8),
                    four(bytes, from + 12), four(bytes, from + 16));
        }
        int cut = x.end(bytes.length);
        if (cut != bytes.length) {
            throw new IllegalStateException("the tape was not empty, or the text is too long: " + text);
        }
    }

    static int four(byte[] bytes, int from) {
        int all = 0;
        for (int i = from; i < from + 4; i++) {
            all = all << 8 | (i < bytes.length ? bytes[i] & 255 : 0);
        }
        return all;
    }

    static WordTerms textOf(String text) {
        WordTerms x = new WordTerms();
        type(x, text);
        x.read();
        return x;
    }

    /** Term k as the calls of sign tell it. */
    static String term(WordTerms x, int k) {
        StringBuilder signs = new StringBuilder();
        for (int i = 0; i < x.sign(k, -1); i++) {
            signs.append((char) x.sign(k, i));
        }
        return signs.toString();
    }

    /** All terms of the text, with a blank between two. */
    static String terms(WordTerms x) {
        StringBuilder all = new StringBuilder();
        for (int k = 0; x.sign(k, -1) != WordTerms.NONE; k++) {
            all.append(k == 0 ? "" : " ").append(term(x, k));
        }
        return all.toString();
    }

    /** How many bytes are on a tape that has room for no more than 300. */
    static int onTape(WordTerms x) {
        int n = 300;
        while (n > 0 && x.end(n) == WordTerms.REFUSED) {
            n--;
        }
        return n;
    }
}
