/** The heading "Terms": what TAPE, WORDS, TERM, TEXT and DISTANCE mean, and the limits that stand there. */
public final class TermsTest extends Check {
    private static final String TWENTY = "abcdefghijklmnopqrst";

    public static void main(String[] args) {
        runTests(TermsTest.class);
    }

    // "THE TAPE has bytes, none at first, at most 300"

    static void tapeHas300Bytes() {
        Run run = new Run();
        run.type("x".repeat(299) + " ");
        due(run.end(300), 300);
        run.end(299);
        due(run.plain(), 1);
    }

    static void tapeHasNo301stByte() {
        Run run = new Run();
        run.type("x".repeat(300));
        due(run.end(301), REFUSED);
        run.end(281);
        due(run.feed(0, 0, 0, 0, 0), FULL);
        due(run.onTape(), 281);
    }

    // "calls that read it empty it"

    static void readEmptiesTheTape() {
        Run run = new Run();
        run.type("two words");
        run.read();
        due(run.onTape(), 0);
    }

    static void apartEmptiesTheTape() {
        Run run = Run.ofText("word");
        run.type("words");
        run.apart(0);
        due(run.onTape(), 0);
    }

    static void nearestEmptiesTheTape() {
        Run run = Run.ofText("word");
        run.type("words");
        run.nearest();
        due(run.onTape(), 0);
    }

    static void plainEmptiesTheTape() {
        Run run = Run.ofText("word");
        run.type("words");
        run.plain();
        due(run.onTape(), 0);
    }

    static void callsThatReadTheTextAloneLeaveTheTape() {
        Run run = Run.ofText("word");
        run.type("tape");
        run.sign(0, 0);
        run.sign(9, 0);
        run.different();
        run.first(0);
        run.first(9);
        run.compare(0, 0);
        run.compare(0, 9);
        due(run.onTape(), 4);
        run.read();
        due(run.terms(), "tape");
    }

    // "WORDS of bytes: runs, as long as can be, of letters and digits (48 to 57, 65 to 90, 97 to 122)"

    static void digitsAre48To57() {
        signsBetween(48, 57, 48);
    }

    static void capitalLettersAre65To90TakenAsSmallOnes() {
        signsBetween(65, 90, 97);
    }

    static void smallLettersAre97To122() {
        signsBetween(97, 122, 97);
    }

    private static void signsBetween(int lowest, int highest, int sign) {
        for (int b = lowest; b <= highest; b++) {
            Run run = Run.ofText("q" + (char) b + "q");
            due("byte " + b + ": terms", run.sign(0, -1), 3);
            due("byte " + b + ": sign", run.sign(0, 1), sign + b - lowest);
        }
        dueBreak(lowest - 1);
        dueBreak(highest + 1);
    }

    static void bytes0To47AreNoSigns() {
        noSignsBetween(0, 47);
    }

    static void bytes58To64AreNoSigns() {
        noSignsBetween(58, 64);
    }

    static void bytes91To96AreNoSigns() {
        noSignsBetween(91, 96);
    }

    static void bytes123To127AreNoSigns() {
        noSignsBetween(123, 127);
    }

    static void bytes128To255AreNoSigns() {
        noSignsBetween(128, 255);
    }

    private static void noSignsBetween(int lowest, int highest) {
        for (int b = lowest; b <= highest; b++) {
            dueBreak(b);
        }
    }

    private static void dueBreak(int b) {
        due("byte " + b + ": terms", Run.ofText("q" + (char) b + "p").terms(), "q p");
        Run run = Run.ofText("q");
        run.type("q" + (char) b);
        due("byte " + b + ": apart", run.apart(0), REFUSED);
    }

    static void wordsAreAsLongAsCanBe() {
        due(Run.ofText("ab12CD3").terms(), "ab12cd3");
    }

    static void aWordGoesOnThroughSeveralFeeds() {
        Run run = new Run();
        run.type("a".repeat(15) + "bcdef");
        run.type("ghij klm");
        run.read();
        due(run.terms(), "a".repeat(15) + "bcdefghij klm");
    }

    static void aWordAtEachEndOfTheTape() {
        due(Run.ofText("a b").terms(), "a b");
        due(Run.ofText(" a b ").terms(), "a b");
    }

    static void manyBytesBetweenTwoWords() {
        due(Run.ofText("a -\0\t- b").terms(), "a b");
    }

    static void aFullTapeIsOneWord() {
        Run run = new Run();
        run.type("z".repeat(300));
        due(run.read(), 1);
        due(run.terms(), "z".repeat(24));
    }

    // "if it has 5 signs or more and ends with ies, y takes the place of these"

    static void iesBecomesYFrom5SignsOn() {
        termOf("flies", "fly");
        termOf("12ies", "12y");
        termOf("stories", "story");
        termOf("series", "sery");
        termOf("iesies", "iesy");
    }

    static void iesOf4SignsLosesItsSAlone() {
        termOf("dies", "die");
        termOf("iies", "iie");
    }

    static void iesOf3SignsStays() {
        termOf("ies", "ies");
    }

    static void iesInCapitals() {
        termOf("FLIES", "fly");
        termOf("flIeS", "fly");
    }

    static void iesMustStandAtTheEndAndBeWhole() {
        termOf("iesxx", "iesxx");
        termOf("flees", "flee");
        termOf("flias", "flia");
        termOf("flier", "flier");
        termOf("quiet", "quiet");
        termOf("eyes1", "eyes1");
        termOf("fries9", "fries9");
    }

    // "else if it has 4 or more and ends with s, but not with ss or us, without the s"

    static void sIsDroppedFrom4SignsOn() {
        termOf("cats", "cat");
        termOf("eyes", "eye");
        termOf("1990s", "1990");
        termOf("asas", "asa");
    }

    static void sStaysBelow4Signs() {
        termOf("gas", "gas");
        termOf("yes", "yes");
        termOf("is", "is");
        termOf("s", "s");
    }

    static void ssStays() {
        termOf("pass", "pass");
        termOf("glass", "glass");
        termOf("ssss", "ssss");
    }

    static void usStays() {
        termOf("plus", "plus");
        termOf("virus", "virus");
    }

    static void endingsInCapitals() {
        termOf("CATS", "cat");
        termOf("catS", "cat");
        termOf("PASS", "pass");
        termOf("pasS", "pass");
        termOf("paSs", "pass");
        termOf("PLUS", "plus");
        termOf("plUs", "plus");
        termOf("pluS", "plus");
    }

    static void otherLastSignsStay() {
        termOf("door", "door");
        termOf("goat", "goat");
        termOf("desk", "desk");
        termOf("lens1", "lens1");
    }

    static void oneSAloneIsDropped() {
        termOf("asks", "ask");
        termOf("uses", "use");
        termOf("buses", "buse");
        termOf("glasses", "glasse");
    }

    static void wordsBesideAWordDoNotCountForItsEnding() {
        due(Run.ofText("u s ss ie s fl ies").terms(), "u s ss ie s fl ies");
        due(Run.ofText("u/nas s/cats").terms(), "u nas s cat");
    }

    // "then its first 24 signs"

    static void aTermOf24SignsIsWhole() {
        termOf(TWENTY + "0123", TWENTY + "0123");
    }

    static void aTermOf25SignsIsCut() {
        termOf(TWENTY + "01234", TWENTY + "0123");
    }

    static void theSOfAWordIsDroppedBeforeTheCut() {
        termOf(TWENTY + "012s", TWENTY + "012");
        termOf(TWENTY + "0123s", TWENTY + "0123");
        termOf(TWENTY + "01234s", TWENTY + "0123");
    }

    static void theYOfAWordComesBeforeTheCut() {
        termOf(TWENTY + "0ies", TWENTY + "0y");
        termOf(TWENTY + "01ies", TWENTY + "01y");
        termOf(TWENTY + "012ies", TWENTY + "012y");
        termOf(TWENTY + "0123ies", TWENTY + "0123");
    }

    static void theCutMakesNoNewEnding() {
        termOf(TWENTY + "012s4", TWENTY + "012s");
        termOf(TWENTY + "012ss", TWENTY + "012s");
        termOf(TWENTY + "012sus", TWENTY + "012s");
        termOf(TWENTY + "0iesx", TWENTY + "0ies");
        termOf(TWENTY + "0iess", TWENTY + "0ies");
    }

    /** The term as read makes it, and as apart takes it from the tape. */
    private static void termOf(String word, String term) {
        Run run = Run.ofText("ss " + word + " i");
        due("the term of " + word, run.term(1), term);
        due("its length", run.sign(1, -1), term.length());
        due("the terms beside it", run.term(0) + run.term(2), "ssi");
        Run taken = new Run();
        taken.type(term);
        taken.plain();
        taken.type(word);
        due("apart of " + word, taken.apart(0), 0);
    }

    // "THE TEXT has terms, none at first, at most 150, numbered from 0"

    static void textHas150Terms() {
        Run run = new Run();
        run.type("a ".repeat(149) + "bc");
        due(run.read(), 150);
        due(run.term(149), "bc");
    }

    static void textHasNo151stTerm() {
        Run run = Run.ofText("a ".repeat(150));
        run.type("b");
        due(run.plain(), REFUSED);
        due(run.sign(150, -1), NONE);
    }

    static void termsAreNumberedFrom0() {
        Run run = Run.ofText("one two");
        due(run.term(0), "one");
        due(run.term(1), "two");
        due(run.sign(-1, -1), NONE);
        due(run.sign(2, -1), NONE);
    }

    // "the least number of signs that must be put in, left out or changed to make the one of the other"

    static void distanceOfTheSameIs0() {
        distance("a", "a", 0);
        distance("x".repeat(24), "x".repeat(24), 0);
    }

    static void distanceCountsWhatIsPutIn() {
        distance("bc", "abc", 1);
        distance("ac", "abc", 1);
        distance("ab", "abc", 1);
        distance("b", "abcd", 3);
    }

    static void distanceCountsWhatIsLeftOut() {
        distance("abc", "bc", 1);
        distance("abc", "ac", 1);
        distance("abc", "ab", 1);
        distance("abcd", "c", 3);
    }

    static void distanceCountsWhatIsChanged() {
        distance("abc", "xbc", 1);
        distance("abc", "axc", 1);
        distance("abc", "abx", 1);
        distance("a", "z", 1);
    }

    static void distanceOfTwoSignsInEachOthersPlaceIs2() {
        distance("ab", "ba", 2);
        distance("xaby", "xbay", 2);
    }

    static void distanceIsTheLeast() {
        distance("kitten", "sitting", 3);
        distance("sitting", "kitten", 3);
        distance("saturday", "sunday", 3);
        distance("abcdef", "bcdefa", 2);
        distance("0123456789", "9012345678", 2);
    }

    static void distanceIs24AtMost() {
        distance("a".repeat(24), "b".repeat(24), 24);
        distance("a".repeat(24), "b", 24);
        distance("b", "a".repeat(24), 24);
        distance("a", "a".repeat(24), 23);
        distance("a".repeat(24), "a", 23);
    }

    private static void distance(String one, String other, int far) {
        Run run = Run.ofText(one);
        run.type(other);
        due("the distance of " + one + " and " + other, run.apart(0), far);
    }
}
