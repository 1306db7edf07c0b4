/** Promise 10: "The number of the term that has the least DISTANCE [..], of several the first. REFUSED, first, [..] NONE". */
public final class Promise10NearestTest extends Check {
    private static final String[] NO_WORDS = {
        "", " ", " ab", "ab ", "a b", "ab!", "\0", "ab\0", "\u00e4b", " ".repeat(300), "a".repeat(299) + " "
    };

    public static void main(String[] args) {
        runTests(Promise10NearestTest.class);
    }

    static void theLeastDistance() {
        nearest("house mouse mice horse", "mouse", 1);
        nearest("house mouse mice horse", "mic", 2);
        nearest("house mouse mice horse", "hors", 3);
        nearest("house mouse mice horse", "mousey", 1);
    }

    static void ofSeveralTheFirst() {
        nearest("horse mouse mice mouse", "mouse", 1);
        nearest("a b c", "x", 0);
        nearest("xyz abd abe", "abc", 1);
    }

    static void theTermOfTheTapeIsTaken() {
        nearest("house houses flie fly", "HOUSES", 0);
        nearest("flie fly", "flies", 1);
        nearest("y " + "x".repeat(24), "x".repeat(300), 1);
    }

    static void thePlainTermsAreTakenAsTheyAre() {
        Run run = new Run();
        run.type("cats");
        run.plain();
        run.type("cat");
        run.plain();
        run.type("cats");
        due(run.nearest(), 1);
    }

    static void aTextOfOneTermHowFarItMayBe() {
        nearest("a", "a", 0);
        nearest("a".repeat(24), "b".repeat(24), 0);
    }

    static void theLastOf150Terms() {
        nearest("a ".repeat(149) + "b", "b", 149);
    }

    static void termsOfAFormerTextDoNotCount() {
        Run run = Run.ofText("one two");
        run.type("one");
        run.read();
        run.type("two");
        due(run.nearest(), 0);
    }

    private static void nearest(String text, String tape, int number) {
        due("nearest of " + tape, textAndTape(text, tape).nearest(), number);
    }

    static void refusedForAnEmptyTape() {
        due(textAndTape("abc", "").nearest(), REFUSED);
    }

    static void refusedForNoWord() {
        for (String noWord : NO_WORDS) {
            due("nearest of <" + noWord + ">", textAndTape("ab", noWord).nearest(), REFUSED);
        }
    }

    static void refusedComesBeforeNone() {
        due(new Run().nearest(), REFUSED);
        for (String noWord : NO_WORDS) {
            due("nearest of <" + noWord + ">", textAndTape("", noWord).nearest(), REFUSED);
        }
    }

    static void refusedEmptiesTheTape() {
        for (String noWord : NO_WORDS) {
            Run run = textAndTape("ab", noWord);
            run.nearest();
            due("bytes of <" + noWord + ">", run.onTape(), 0);
        }
    }

    static void noneIfTheTextIsEmpty() {
        due(textAndTape("", "word").nearest(), NONE);
        due(textAndTape("", "x".repeat(300)).nearest(), NONE);
    }

    static void noneIfAFormerTextIsGone() {
        Run run = Run.ofText("word");
        run.read();
        run.type("word");
        due(run.nearest(), NONE);
    }

    static void noneEmptiesTheTape() {
        Run run = textAndTape("", "word");
        run.nearest();
        due(run.onTape(), 0);
        due(run.nearest(), REFUSED);
    }

    static void theTapeIsEmptyThen() {
        Run run = textAndTape("abc", "ab");
        run.nearest();
        due(run.end(1), REFUSED);
        due(run.nearest(), REFUSED);
    }

    static void theTextStays() {
        Run run = textAndTape("abc def", "flies");
        run.nearest();
        run.nearest();
        due(run.terms(), "abc def");
        run = textAndTape("", "flies");
        run.nearest();
        due(run.sign(0, -1), NONE);
    }

    static void aFullTextStays() {
        Run run = textAndTape("a ".repeat(149) + "b", "flies");
        run.nearest();
        due(run.term(149), "b");
        due(run.sign(150, -1), NONE);
    }

    private static Run textAndTape(String text, String tape) {
        Run run = Run.ofText(text);
        run.type(tape);
        return run;
    }
}
