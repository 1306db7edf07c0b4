/** Promise 7: "The number of the first term that is the same as term k. NONE if there is no such term." */
public final class Promise07FirstTest extends Check {
    public static void main(String[] args) {
        runTests(Promise07FirstTest.class);
    }

    static void theFirstOfSeveral() {
        Run run = Run.ofText("b cat a Cats b ab cat");
        int[] firsts = {0, 1, 2, 1, 0, 5, 1};
        for (int k = 0; k < firsts.length; k++) {
            due("first(" + k + ")", run.first(k), firsts[k]);
        }
    }

    static void termZeroIsItsOwnFirst() {
        due(Run.ofText("a").first(0), 0);
        due(Run.ofText("a a").first(0), 0);
    }

    static void theSameBehindTermKDoesNotCount() {
        due(Run.ofText("a b b b").first(1), 1);
    }

    static void aBeginningIsNotTheSame() {
        Run run = Run.ofText("ab a abc a");
        due(run.first(1), 1);
        due(run.first(2), 2);
        due(run.first(3), 1);
    }

    static void whatIsBehind24SignsDoesNotCount() {
        due(Run.ofText("x".repeat(24) + "a " + "x".repeat(24) + "bc").first(1), 0);
        due(Run.ofText("x".repeat(23) + "a " + "x".repeat(23) + "b").first(1), 1);
    }

    static void theLastOf150() {
        due(Run.ofText("a ".repeat(150)).first(149), 0);
        due(Run.ofText("a ".repeat(149) + "b").first(149), 149);
    }

    static void noneBehindTheLastTerm() {
        due(Run.ofText("a b").first(2), NONE);
        due(Run.ofText("a b").first(HIGHEST), NONE);
        due(Run.ofText("a ".repeat(150)).first(150), NONE);
    }

    static void noneBelowTermZero() {
        due(Run.ofText("a b").first(-1), NONE);
        due(Run.ofText("a b").first(LOWEST), NONE);
    }

    static void noneInAnEmptyText() {
        due(new Run().first(0), NONE);
        due(Run.ofText(" ").first(0), NONE);
    }

    static void noneOfAFormerText() {
        Run run = Run.ofText("one two");
        run.type("one");
        run.read();
        due(run.first(1), NONE);
    }

    static void tapeAndTextStay() {
        Run run = Run.ofText("abc def abc");
        run.type("tape");
        run.first(2);
        run.first(3);
        due(run.onTape(), 4);
        due(run.terms(), "abc def abc");
    }
}
