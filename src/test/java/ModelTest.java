import java.util.ArrayList;
import java.util.HashSet;
import java.util.List;
import java.util.Random;

/** Long runs of calls, the same each time, beside a second reading of the document made of the Java library. */
public final class ModelTest extends Check {
    private static final int RUNS = 2000;

    /** The document again, with strings and regular expressions. */
    private static final class Model {
        private String tape = "";
        private List<String> text = new ArrayList<>();

        int feed(String twenty) {
            if (tape.length() + twenty.length() > 300) {
                return FULL;
            }
            tape += twenty;
            return tape.length();
        }

        int end(int n) {
            if (n < 0 || n > tape.length()) {
                return REFUSED;
            }
            tape = tape.substring(0, n);
            return n;
        }

        int read() {
            text = new ArrayList<>();
            for (String word : take().split("[^0-9A-Za-z]+")) {
                if (!word.isEmpty()) {
                    text.add(term(word));
                }
            }
            return text.size();
        }

        int sign(int k, int i) {
            if (!has(k) || i < -1 || i >= text.get(k).length()) {
                return NONE;
            }
            return i == -1 ? text.get(k).length() : text.get(k).charAt(i);
        }

        int different() {
            return new HashSet<>(text).size();
        }

        int first(int k) {
            return has(k) ? text.indexOf(text.get(k)) : NONE;
        }

        int compare(int k, int j) {
            return has(k) && has(j) ? Integer.signum(text.get(k).compareTo(text.get(j))) : NONE;
        }

        int apart(int k) {
            if (!has(k)) {
                return NONE;
            }
            String word = take();
            return isWord(word) ? distance(text.get(k), term(word)) : REFUSED;
        }

        int nearest() {
            String word = take();
            if (!isWord(word)) {
                return REFUSED;
            }
            int best = NONE;
            for (int k = 0; k < text.size(); k++) {
                if (k == 0 || distance(text.get(k), term(word)) < distance(text.get(best), term(word))) {
                    best = k;
                }
            }
            return best;
        }

        int plain() {
            String word = take();
            if (!isWord(word) || text.size() == 150) {
                return REFUSED;
            }
            text.add(cut(small(word)));
            return text.size();
        }

        private String take() {
            String all = tape;
            tape = "";
            return all;
        }

        private boolean has(int k) {
            return k >= 0 && k < text.size();
        }

        private static boolean isWord(String bytes) {
            return bytes.matches("[0-9A-Za-z]+");
        }

        private static String term(String word) {
            String small = small(word);
            if (small.matches("..+ies")) {
                return cut(small.replaceAll("ies$", "y"));
            }
            return cut(small.matches("..+[^su]s") ? small.replaceAll("s$", "") : small);
        }

        private static String small(String word) {
            return word.toLowerCase(java.util.Locale.ROOT);
        }

        private static String cut(String word) {
            return word.substring(0, Math.min(24, word.length()));
        }

        private static int distance(String from, String to) {
            int[][] table = new int[from.length() + 1][to.length() + 1];
            for (int i = 0; i <= from.length(); i++) {
                for (int j = 0; j <= to.length(); j++) {
                    table[i][j] = i == 0 || j == 0 ? i + j
                            : Math.min(table[i - 1][j - 1] + (from.charAt(i - 1) == to.charAt(j - 1) ? 0 : 1),
                                    Math.min(table[i - 1][j], table[i][j - 1]) + 1);
                }
            }
            return table[from.length()][to.length()];
        }
    }

    public static void main(String[] args) {
        runTests(ModelTest.class);
    }

    static void longRuns() {
        for (int number = 0; number < RUNS; number++) {
            longRun(number, new Random(number));
        }
    }

    private static void longRun(int number, Random random) {
        Run run = new Run();
        Model model = new Model();
        String alphabet = ALPHABETS[number % ALPHABETS.length];
        while (run.calls() < Run.MAX_CALLS) {
            step("run " + number + ", call " + run.calls() + ": ", run, model, random, alphabet);
        }
    }

    private static final String[] ALPHABETS = {
        "ab ", "iesusIESUS", "iesxy     ", "aAbBsSuUiIeE01 -", "0189/:@AZ[`az{\0\u00ff\u00e1\u0080", "sie", "a "
    };

    private static void step(String at, Run run, Model model, Random random, String alphabet) {
        int k = number(random, model.text.size());
        int j = number(random, model.text.size());
        switch (random.nextInt(16)) {
            case 0, 1, 2, 3, 4 -> feed(at, run, model, twenty(random, alphabet));
            case 5, 6, 7 -> {
                int n = number(random, random.nextBoolean() ? model.tape.length() : 30);
                due(at + "end(" + n + ")", run.end(n), model.end(n));
            }
            case 8 -> {
                if (random.nextInt(4) == 0) {
                    due(at + "read()", run.read(), model.read());
                }
            }
            case 9 -> {
                int i = number(random, 24);
                due(at + "sign(" + k + ", " + i + ")", run.sign(k, i), model.sign(k, i));
            }
            case 10 -> due(at + "different()", run.different(), model.different());
            case 11 -> due(at + "first(" + k + ")", run.first(k), model.first(k));
            case 12 -> due(at + "compare(" + k + ", " + j + ")", run.compare(k, j), model.compare(k, j));
            case 13 -> due(at + "apart(" + k + ")", run.apart(k), model.apart(k));
            case 14 -> due(at + "nearest()", run.nearest(), model.nearest());
            default -> due(at + "plain()", run.plain(), model.plain());
        }
    }

    private static void feed(String at, Run run, Model model, String twenty) {
        due(at + "feed of " + twenty, run.feed(twenty), model.feed(twenty));
    }

    private static String twenty(Random random, String alphabet) {
        StringBuilder bytes = new StringBuilder();
        for (int i = 0; i < 20; i++) {
            bytes.append(alphabet.charAt(random.nextInt(alphabet.length())));
        }
        return bytes.toString();
    }

    /** Mostly from -2 to a little above the bound, now and then any number. */
    private static int number(Random random, int bound) {
        return random.nextInt(40) == 0 ? random.nextInt() : random.nextInt(bound + 4) - 2;
    }
}
