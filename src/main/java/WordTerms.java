/** Words of texts and their terms: which are the same, how they are ordered, how far two are apart. */
public final class WordTerms {
    public static final int REFUSED = -1, NONE = -2, FULL = -3;

    private static final int MAX_TAPE = 300;
    private static final int MAX_TERMS = 150;
    private static final int MAX_SIGNS = 24;
    private static final int FEED_BYTES = 20;

    // The term of the tape gets a slot behind those of the text, so that one distance serves both.
    private static final int TAPE_SLOT = MAX_TERMS;

    private final byte[] tape;
    private int tapeLength;

    // Slot k has its signs from k * MAX_SIGNS on.
    private final byte[] signs;
    private final int[] lengths;
    private int termCount;

    private final int[] distances;

    public WordTerms() {
        tape = new byte[MAX_TAPE];
        tapeLength = 0;
        signs = new byte[(MAX_TERMS + 1) * MAX_SIGNS];
        lengths = new int[MAX_TERMS + 1];
        termCount = 0;
        distances = new int[MAX_SIGNS + 1];
    }

    public int feed(int a, int b, int c, int d, int e) {
        if (tapeLength + FEED_BYTES > MAX_TAPE) {
            return FULL;
        }
        putFour(a);
        putFour(b);
        putFour(c);
        putFour(d);
        putFour(e);
        return tapeLength;
    }

    public int end(int n) {
        if (n < 0 || n > tapeLength) {
            return REFUSED;
        }
        tapeLength = n;
        return n;
    }

    public int read() {
        termCount = 0;
        int from = 0;
        for (int at = 0; at <= tapeLength; at++) {
            if (at == tapeLength || !isSign(tape[at])) {
                if (from < at) {
                    addTerm(from, at);
                }
                from = at + 1;
            }
        }
        tapeLength = 0;
        return termCount;
    }

    public int sign(int k, int i) {
        if (!hasTerm(k) || i < -1 || i >= lengths[k]) {
            return NONE;
        }
        return i == -1 ? lengths[k] : signAt(k, i);
    }

    public int different() {
        int count = 0;
        for (int k = 0; k < termCount; k++) {
            if (firstSame(k) == k) {
                count++;
            }
        }
        return count;
    }

    public int first(int k) {
        return hasTerm(k) ? firstSame(k) : NONE;
    }

    public int compare(int k, int j) {
        return hasTerm(k) && hasTerm(j) ? order(k, j) : NONE;
    }

    public int apart(int k) {
        if (!hasTerm(k)) {
            return NONE;
        }
        return takeTapeTerm() ? distance(k, TAPE_SLOT) : REFUSED;
    }

    public int nearest() {
        if (!takeTapeTerm()) {
            return REFUSED;
        }
        int best = NONE;
        int least = MAX_SIGNS + 1;
        for (int k = 0; k < termCount; k++) {
            int far = distance(k, TAPE_SLOT);
            if (far < least) {
                least = far;
                best = k;
            }
        }
        return best;
    }

    public int plain() {
        boolean taken = tapeIsWord() && termCount < MAX_TERMS;
        if (taken) {
            writeSigns(termCount, 0, tapeLength);
            termCount++;
        }
        tapeLength = 0;
        return taken ? termCount : REFUSED;
    }

    private void putFour(int four) {
        for (int shift = 24; shift >= 0; shift -= 8) {
            tape[tapeLength] = small((byte) (four >>> shift));
            tapeLength++;
        }
    }

    // Capitals can become small on the tape already: no call answers its bytes but as signs of words.
    private static byte small(byte b) {
        return b >= 'A' && b <= 'Z' ? (byte) (b - 'A' + 'a') : b;
    }

    private static boolean isSign(byte b) {
        return b >= '0' && b <= '9' || b >= 'a' && b <= 'z';
    }

    private boolean tapeIsWord() {
        for (int at = 0; at < tapeLength; at++) {
            if (!isSign(tape[at])) {
                return false;
            }
        }
        return tapeLength > 0;
    }

    private boolean takeTapeTerm() {
        boolean word = tapeIsWord();
        if (word) {
            writeTerm(TAPE_SLOT, 0, tapeLength);
        }
        tapeLength = 0;
        return word;
    }

    // The tape, with a byte between any two words, has no more words than the text has slots.
    private void addTerm(int from, int to) {
        if (termCount < MAX_TERMS) {
            writeTerm(termCount, from, to);
            termCount++;
        }
    }

    // The y is put on the tape itself: every call that comes here empties the tape.
    private void writeTerm(int slot, int from, int to) {
        int length = to - from;
        if (length >= 5 && endsWithIes(to)) {
            tape[to - 3] = 'y';
            writeSigns(slot, from, to - 2);
        } else if (length >= 4 && endsWithLooseS(to)) {
            writeSigns(slot, from, to - 1);
        } else {
            writeSigns(slot, from, to);
        }
    }

    private boolean endsWithIes(int to) {
        return tape[to - 3] == 'i' && tape[to - 2] == 'e' && tape[to - 1] == 's';
    }

    private boolean endsWithLooseS(int to) {
        return tape[to - 1] == 's' && tape[to - 2] != 's' && tape[to - 2] != 'u';
    }

    private void writeSigns(int slot, int from, int to) {
        int length = Math.min(to - from, MAX_SIGNS);
        System.arraycopy(tape, from, signs, slot * MAX_SIGNS, length);
        lengths[slot] = length;
    }

    private boolean hasTerm(int k) {
        return k >= 0 && k < termCount;
    }

    private int signAt(int slot, int i) {
        return signs[slot * MAX_SIGNS + i];
    }

    private int firstSame(int k) {
        for (int j = 0; j < k; j++) {
            if (order(j, k) == 0) {
                return j;
            }
        }
        return k;
    }

    private int order(int k, int j) {
        int shared = Math.min(lengths[k], lengths[j]);
        for (int i = 0; i < shared; i++) {
            if (signAt(k, i) != signAt(j, i)) {
                return signAt(k, i) < signAt(j, i) ? -1 : 1;
            }
        }
        return Integer.compare(lengths[k], lengths[j]);
    }

    // One row of the table is enough: what it loses as it is written over is kept in corner.
    private int distance(int k, int j) {
        for (int column = 0; column <= lengths[j]; column++) {
            distances[column] = column;
        }
        for (int line = 1; line <= lengths[k]; line++) {
            int corner = distances[0];
            distances[0] = line;
            for (int column = 1; column <= lengths[j]; column++) {
                int changed = signAt(k, line - 1) == signAt(j, column - 1) ? corner : corner + 1;
                corner = distances[column];
                int putOrLeft = Math.min(corner, distances[column - 1]) + 1;
                distances[column] = Math.min(changed, putOrLeft);
            }
        }
        return distances[lengths[j]];
    }
}
