/** Promise 9: "The DISTANCE of term k and the TERM of the TAPE. NONE, first, [..] REFUSED if the TAPE is not a word". */
public final class Promise09ApartTest extends Check {
    private static final String[] NO_WORDS = {
        "", " ", " ab", "ab ", "a b", "ab!", "a-b", "\0", "ab\0", "\0ab", "\u00e4b", "ab\u00ff", " ".repeat(300),
        "a".repeat(299) + " ", " " + "a".repeat(299)
    };

    public static void main(String[] args) {
        runTests(Promise09ApartTest.class);
    }

    static void theDistanceOfTermK() {
        due(textAndTape("kitten sit a", "SITTING").apart(0), 3);
        due(textAndTape("kitten sit a", "SITTING").apart(1), 4);
        due(textAndTape("kitten sit a", "SITTING").apart(2), 7);
    }

    static void theTermOfTheTapeIsTaken() {
        due(textAndTape("cat", "cats").apart(0), 0);
        due(textAndTape("story", "Stories").apart(0), 0);
        due(textAndTape("x".repeat(24), "x".repeat(300)).apart(0), 0);
    }

    static void thePlainTermKIsTakenAsItIs() {
        Run run = new Run();
        run.type("cats");
        run.plain();
        run.type("cats");
        due(run.apart(0), 1);
    }

    static void aWordOfOneSign() {
        due(textAndTape("a", "a").apart(0), 0);
        due(textAndTape("a", "9").apart(0), 1);
    }

    static void theLastOf150Terms() {
        due(textAndTape("a ".repeat(149) + "b", "bc").apart(149), 1);
    }

    static void noneBehindTheLastTerm() {
        due(textAndTape("abc", "ab").apart(1), NONE);
        due(textAndTape("abc", "ab").apart(HIGHEST), NONE);
        due(textAndTape("a ".repeat(150), "ab").apart(150), NONE);
    }

    static void noneBelowTermZero() {
        due(textAndTape("abc", "ab").apart(-1), NONE);
        due(textAndTape("abc", "ab").apart(LOWEST), NONE);
    }

    static void noneInAnEmptyText() {
        due(textAndTape("", "ab").apart(0), NONE);
    }

    static void noneOfAFormerText() {
        Run run = Run.ofText("one two");
        run.type("one");
        run.read();
        run.type("two");
        due(run.apart(1), NONE);
    }

    static void noneComesBeforeRefused() {
        for (String noWord : NO_WORDS) {
            due("apart(1) of <" + noWord + ">", textAndTape("abc", noWord).apart(1), NONE);
            due("apart(-1) of <" + noWord + ">", textAndTape("abc", noWord).apart(-1), NONE);
        }
    }

    static void noneLetsAWordStayOnTheTape() {
        Run run = textAndTape("abc", "ab");
        for (int wrong : new int[] {-1, 1, 150, LOWEST, HIGHEST}) {
            run.apart(wrong);
            due("bytes after apart(" + wrong + ")", run.onTape(), 2);
        }
        due(run.apart(0), 1);
    }

    static void noneLetsNoWordStayOnTheTape() {
        for (String noWord : NO_WORDS) {
            Run run = textAndTape("abc", noWord);
            run.apart(1);
            due("bytes of <" + noWord + ">", run.onTape(), noWord.length());
        }
    }

    static void noneChangesNoByteOfTheTape() {
        Run run = textAndTape("abc", "Flies");
        run.apart(1);
        run.plain();
        due(run.terms(), "abc flies");
    }

    static void refusedForAnEmptyTape() {
        due(textAndTape("abc", "").apart(0), REFUSED);
    }

    static void refusedForBlanks() {
        due(textAndTape("abc", " abc").apart(0), REFUSED);
        due(textAndTape("abc", "abc ").apart(0), REFUSED);
        due(textAndTape("abc", "abc abc").apart(0), REFUSED);
        due(textAndTape("abc", " ").apart(0), REFUSED);
    }

    static void refusedForAnyByteThatIsNoSign() {
        for (String noWord : NO_WORDS) {
            due("apart(0) of <" + noWord + ">", textAndTape("abc", noWord).apart(0), REFUSED);
        }
    }

    static void refusedForTheZerosOfAFeed() {
        Run run = Run.ofText("abc");
        run.feed("abc");
        due(run.apart(0), REFUSED);
    }

    static void refusedEmptiesTheTape() {
        for (String noWord : NO_WORDS) {
            Run run = textAndTape("abc", noWord);
            run.apart(0);
            due("bytes of <" + noWord + ">", run.onTape(), 0);
        }
    }

    static void theTapeIsEmptyThen() {
        Run run = textAndTape("abc", "ab");
        run.apart(0);
        due(run.end(1), REFUSED);
        due(run.apart(0), REFUSED);
    }

    static void theTextStays() {
        Run run = textAndTape("abc def", "flies");
        run.apart(1);
        run.apart(2);
        run.apart(0);
        due(run.terms(), "abc def");
    }

    static void aFullTextStays() {
        Run run = textAndTape("a ".repeat(149) + "b", "flies");
        run.apart(149);
        due(run.term(149), "b");
        due(run.sign(150, -1), NONE);
    }

    private static Run textAndTape(String text, String tape) {
        Run run = Run.ofText(text);
        run.type(tape);
        return run;
    }
}
