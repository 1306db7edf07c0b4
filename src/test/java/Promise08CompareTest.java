/** Promise 8: "-1, 0 or 1: term k is before term j in the order of their bytes, the same, or behind. NONE". */
public final class Promise08CompareTest extends Check {
    public static void main(String[] args) {
        runTests(Promise08CompareTest.class);
    }

    static void theFirstOtherSignDecides() {
        order("abc", "b", -1);
        order("abz", "acb", -1);
        order("a", "z", -1);
    }

    static void digitsAreBeforeLetters() {
        order("9", "a", -1);
        order("a9", "aa", -1);
        order("0", "z", -1);
    }

    static void capitalsAreTakenAsSmallOnes() {
        order("a", "B", -1);
        order("A", "b", -1);
        order("AB", "ab", 0);
    }

    static void aBeginningIsBeforeWhatIsLonger() {
        order("ab", "abc", -1);
        order("a", "a" + "b".repeat(23), -1);
    }

    static void theSame() {
        order("ab", "ab", 0);
        order("cat", "cats", 0);
        due(Run.ofText("a b").compare(1, 1), 0);
    }

    static void theLastOf24SignsDecides() {
        order("x".repeat(23) + "a", "x".repeat(23) + "b", -1);
    }

    static void whatIsBehind24SignsDoesNotCount() {
        order("x".repeat(24) + "a", "x".repeat(24) + "bc", 0);
    }

    private static void order(String one, String other, int answer) {
        due(one + " and " + other, Run.ofText(one + " " + other).compare(0, 1), answer);
        due(other + " and " + one, Run.ofText(other + " " + one).compare(0, 1), -answer);
        due(other + " and " + one + ", turned", Run.ofText(one + " " + other).compare(1, 0), -answer);
    }

    static void theFirstAndTheLastOf150() {
        Run run = Run.ofText("a ".repeat(149) + "b");
        due(run.compare(0, 149), -1);
        due(run.compare(149, 0), 1);
    }

    static void noneIfKIsNotThere() {
        for (int wrong : new int[] {-1, 2, 150, LOWEST, HIGHEST}) {
            due("compare(" + wrong + ", 0)", Run.ofText("a b").compare(wrong, 0), NONE);
        }
    }

    static void noneIfJIsNotThere() {
        for (int wrong : new int[] {-1, 2, 150, LOWEST, HIGHEST}) {
            due("compare(0, " + wrong + ")", Run.ofText("a b").compare(0, wrong), NONE);
        }
    }

    static void noneIfBothAreNotThere() {
        for (int wrong : new int[] {-1, 2, 150, LOWEST, HIGHEST}) {
            due("compare(" + wrong + ", itself)", Run.ofText("a b").compare(wrong, wrong), NONE);
        }
        due(Run.ofText("a b").compare(-1, 2), NONE);
    }

    static void noneBehind150Terms() {
        Run run = Run.ofText("a ".repeat(150));
        due(run.compare(149, 150), NONE);
        due(run.compare(150, 149), NONE);
    }

    static void noneInAnEmptyText() {
        due(new Run().compare(0, 0), NONE);
    }

    static void noneOfAFormerText() {
        Run run = Run.ofText("one two");
        run.type("one");
        run.read();
        due(run.compare(0, 1), NONE);
        due(run.compare(1, 0), NONE);
    }

    static void tapeAndTextStay() {
        Run run = Run.ofText("abc def");
        run.type("tape");
        run.compare(0, 1);
        run.compare(0, 2);
        due(run.onTape(), 4);
        due(run.terms(), "abc def");
    }
}
