/** Promise 4: "The TEXT becomes the TERMS of the words of the TAPE, in order: how many." */
public final class Promise04ReadTest extends Check {
    public static void main(String[] args) {
        runTests(Promise04ReadTest.class);
    }

    static void theTermsInOrder() {
        Run run = new Run();
        run.type("  The Cats, 2 DOGS-and...x9Y, flies ");
        due(run.read(), 7);
        due(run.terms(), "the cat 2 dog and x9y fly");
    }

    static void theSameTermTwiceIsTwoTerms() {
        Run run = new Run();
        run.type("cat Cats cat");
        due(run.read(), 3);
        due(run.terms(), "cat cat cat");
    }

    static void oneWord() {
        Run run = new Run();
        run.type("a");
        due(run.read(), 1);
        due(run.terms(), "a");
    }

    static void mostWordsOfATapeThatBeginsWithOne() {
        Run run = new Run();
        run.type("a ".repeat(149) + "b ");
        due(run.read(), 150);
        due(run.term(0), "a");
        due(run.term(149), "b");
    }

    static void mostWordsOfATapeThatEndsWithOne() {
        Run run = new Run();
        run.type(" c" + " a".repeat(148) + " b");
        due(run.read(), 150);
        due(run.term(0), "c");
        due(run.term(149), "b");
    }

    static void anEmptyTapeLeavesAnEmptyText() {
        Run run = Run.ofText("one two");
        due(run.read(), 0);
        due(run.different(), 0);
        due(run.sign(0, -1), NONE);
    }

    static void aTapeWithoutWordsLeavesAnEmptyText() {
        Run run = Run.ofText("one two");
        run.type(" .,\0-!\u00e4");
        due(run.read(), 0);
        due(run.different(), 0);
        due(run.sign(0, -1), NONE);
        due(run.onTape(), 0);
    }

    static void aFullTapeWithoutWords() {
        Run run = new Run();
        run.type(" ".repeat(300));
        due(run.read(), 0);
        due(run.onTape(), 0);
    }

    static void theNewTextTakesThePlaceOfALongerOne() {
        Run run = Run.ofText("a ".repeat(150));
        run.type("new");
        due(run.read(), 1);
        due(run.terms(), "new");
    }

    static void theNewTextTakesThePlaceOfPlainTerms() {
        Run run = Run.ofText("one");
        run.type("two");
        run.plain();
        run.type("three");
        due(run.read(), 1);
        due(run.terms(), "three");
    }

    static void theTapeIsEmptyThen() {
        Run run = new Run();
        run.type("one two");
        run.read();
        due(run.end(1), REFUSED);
        due(run.read(), 0);
    }

    static void wordsThatWereCutAreNotRead() {
        Run run = new Run();
        run.type("one two three");
        run.end(6);
        due(run.read(), 2);
        due(run.terms(), "one tw");
    }
}
