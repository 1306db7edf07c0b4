/** Promise 6: "How many different terms the TEXT has." */
public final class Promise06DifferentTest extends Check {
    public static void main(String[] args) {
        runTests(Promise06DifferentTest.class);
    }

    static void noneInAnEmptyText() {
        due(new Run().different(), 0);
        due(Run.ofText(" ").different(), 0);
    }

    static void oneOfOne() {
        due(Run.ofText("a").different(), 1);
    }

    static void allTheSame() {
        due(Run.ofText("cat Cats CAT cats").different(), 1);
    }

    static void someTheSame() {
        due(Run.ofText("b a b c a b").different(), 3);
    }

    static void aBeginningIsNotTheSame() {
        due(Run.ofText("a ab abc ab").different(), 3);
    }

    static void theLastSignDecides() {
        due(Run.ofText("x".repeat(23) + "a " + "x".repeat(23) + "b").different(), 2);
    }

    static void whatIsBehind24SignsDoesNotCount() {
        due(Run.ofText("x".repeat(24) + "a " + "x".repeat(24) + "bc").different(), 1);
    }

    static void a150thOfItsOwn() {
        due(Run.ofText("a ".repeat(149) + "b").different(), 2);
    }

    static void allOf150TheSame() {
        due(Run.ofText("a ".repeat(150)).different(), 1);
    }

    static void allOf150Different() {
        Run run = new Run();
        for (int k = 0; k < 150; k++) {
            run.type("w" + k);
            run.plain();
        }
        due(run.different(), 150);
    }

    static void plainTermsCount() {
        Run run = Run.ofText("cats");
        run.type("cats");
        run.plain();
        due(run.different(), 2);
        run.type("CAT");
        run.plain();
        due(run.different(), 2);
    }

    static void termsOfAFormerTextDoNotCount() {
        Run run = Run.ofText("one two three");
        run.type("four");
        run.read();
        due(run.different(), 1);
    }

    static void tapeAndTextStay() {
        Run run = Run.ofText("abc def abc");
        run.type("tape");
        due(run.different(), 2);
        due(run.different(), 2);
        due(run.onTape(), 4);
        due(run.terms(), "abc def abc");
    }
}
