/** Promise 1: "Nothing on the TAPE and in the TEXT." */
public final class Promise01NewObjectTest extends Check {
    public static void main(String[] args) {
        runTests(Promise01NewObjectTest.class);
    }

    static void nothingOnTheTape() {
        Run run = new Run();
        due(run.end(1), REFUSED);
        due(run.end(0), 0);
        due(run.feed(0, 0, 0, 0, 0), 20);
    }

    static void nothingOnTheTapeToRead() {
        due(new Run().read(), 0);
    }

    static void nothingOnTheTapeIsNoWord() {
        due(new Run().nearest(), REFUSED);
        due(new Run().plain(), REFUSED);
    }

    static void nothingInTheText() {
        Run run = new Run();
        due(run.different(), 0);
        due(run.sign(0, -1), NONE);
        due(run.sign(0, 0), NONE);
        due(run.first(0), NONE);
        due(run.compare(0, 0), NONE);
        due(run.apart(0), NONE);
    }

    static void nothingOfAnotherObject() {
        Run other = Run.ofText("one two");
        other.type("tape");
        Run run = new Run();
        due(run.different(), 0);
        due(run.end(1), REFUSED);
        run.type("three");
        run.read();
        due(other.terms(), "one two");
        due(other.onTape(), 4);
        due(run.terms(), "three");
    }
}
