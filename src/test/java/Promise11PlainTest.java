/** Promise 11: "The first 24 signs of the word that the TAPE is [..] come behind the terms of the TEXT as one more". */
public final class Promise11PlainTest extends Check {
    private static final String[] NO_WORDS = {
        "", " ", " ab", "ab ", "a b", "ab!", "\0", "ab\0", "\u00e4b", " ".repeat(300), "a".repeat(299) + " "
    };

    public static void main(String[] args) {
        runTests(Promise11PlainTest.class);
    }

    static void behindTheTermsOfTheText() {
        Run run = textAndTape("one two", "three");
        due(run.plain(), 3);
        due(run.terms(), "one two three");
        run.type("four");
        due(run.plain(), 4);
        due(run.terms(), "one two three four");
    }

    static void theFirstTermOfAnEmptyText() {
        Run run = textAndTape("", "one");
        due(run.plain(), 1);
        due(run.terms(), "one");
    }

    static void theSameAgainIsOneMore() {
        Run run = textAndTape("one", "one");
        due(run.plain(), 2);
        due(run.terms(), "one one");
    }

    static void capitalsAsSmallOnes() {
        plainOf("AbZ9", "abz9");
    }

    static void theEndingIsLeftAsItIs() {
        plainOf("cats", "cats");
        plainOf("FLIES", "flies");
        plainOf("dies", "dies");
        plainOf("glass", "glass");
        plainOf("virus", "virus");
    }

    static void aWordOfOneSign() {
        plainOf("9", "9");
        plainOf("s", "s");
    }

    static void aWordOf24SignsIsWhole() {
        plainOf("x".repeat(23) + "s", "x".repeat(23) + "s");
        plainOf("x".repeat(21) + "ies", "x".repeat(21) + "ies");
    }

    static void aWordOf25SignsIsCut() {
        plainOf("x".repeat(24) + "s", "x".repeat(24));
        plainOf("x".repeat(22) + "ies", "x".repeat(22) + "ie");
        plainOf("x".repeat(23) + "sies", "x".repeat(23) + "s");
    }

    static void aWordOf300SignsIsCut() {
        plainOf("abc".repeat(100), "abc".repeat(8));
    }

    private static void plainOf(String word, String signs) {
        Run run = textAndTape("a b", word);
        due("plain of " + word, run.plain(), 3);
        due("the terms", run.terms(), "a b " + signs);
    }

    static void refusedForAnEmptyTape() {
        due(textAndTape("abc", "").plain(), REFUSED);
        due(new Run().plain(), REFUSED);
    }

    static void refusedForNoWord() {
        for (String noWord : NO_WORDS) {
            due("plain of <" + noWord + ">", textAndTape("one", noWord).plain(), REFUSED);
        }
    }

    static void refusedForNoWordEmptiesTheTape() {
        for (String noWord : NO_WORDS) {
            Run run = textAndTape("one", noWord);
            run.plain();
            due("bytes of <" + noWord + ">", run.onTape(), 0);
        }
    }

    static void refusedForNoWordLeavesTheText() {
        for (String noWord : NO_WORDS) {
            Run run = textAndTape("one two", noWord);
            run.plain();
            due("terms after <" + noWord + ">", run.terms(), "one two");
        }
    }

    static void the150thTermIsNotRefused() {
        Run run = textAndTape("a ".repeat(149), "b".repeat(24));
        due(run.plain(), 150);
        due(run.term(149), "b".repeat(24));
    }

    static void refusedIfThereAre150() {
        due(textAndTape("a ".repeat(150), "b").plain(), REFUSED);
    }

    static void refusedIfThereAre150OfPlain() {
        Run run = new Run();
        for (int n = 1; n <= 150; n++) {
            run.type("word" + n);
            due("plain of word " + n, run.plain(), n);
        }
        run.type("one");
        due(run.plain(), REFUSED);
        due(run.term(149), "word150");
    }

    static void refusedIfThereAre150AndNoWord() {
        Run run = textAndTape("a ".repeat(150), "a b");
        due(run.plain(), REFUSED);
        due(run.onTape(), 0);
    }

    static void refusedIfThereAre150EmptiesTheTape() {
        Run run = textAndTape("a ".repeat(150), "b");
        run.plain();
        due(run.onTape(), 0);
    }

    static void refusedIfThereAre150LeavesTheText() {
        Run run = textAndTape("a ".repeat(149) + "b", "c");
        run.plain();
        due(run.term(149), "b");
        due(run.sign(150, -1), NONE);
        due(run.different(), 2);
    }

    static void afterRefusedThereIsRoomInANewText() {
        Run run = textAndTape("a ".repeat(150), "b");
        run.plain();
        run.type("new");
        run.read();
        run.type("words");
        due(run.plain(), 2);
        due(run.terms(), "new words");
    }

    static void theTapeIsEmptyThen() {
        Run run = textAndTape("one", "two");
        run.plain();
        due(run.end(1), REFUSED);
        due(run.plain(), REFUSED);
        due(run.terms(), "one two");
    }

    private static Run textAndTape(String text, String tape) {
        Run run = Run.ofText(text);
        run.type(tape);
        return run;
    }
}
