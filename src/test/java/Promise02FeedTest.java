/** Promise 2: "Twenty bytes, five times four, the highest of each first, come to the TAPE: how many it has; FULL". */
public final class Promise02FeedTest extends Check {
    public static void main(String[] args) {
        runTests(Promise02FeedTest.class);
    }

    static void fiveTimesFourTheHighestFirst() {
        Run run = new Run();
        due(run.feed(0x61626364, 0x65666768, 0x696a6b6c, 0x6d6e6f70, 0x71723031), 20);
        run.read();
        due(run.terms(), "abcdefghijklmnopqr01");
    }

    static void theHighestBitsWrapAroundIntoNothing() {
        Run run = new Run();
        run.feed(0xe1616280, 0xffc1da63, LOWEST, HIGHEST, 0x7a000039);
        run.read();
        due(run.terms(), "ab c z 9");
    }

    static void bytesComeBehindThoseThatAreThere() {
        Run run = new Run();
        run.feed("aaaaaaaaaaaaaaaaaaaa");
        run.end(2);
        due(run.feed("bbbbbbbbbbbbbbbbbbbb"), 22);
        run.read();
        due(run.terms(), "aa" + "b".repeat(20));
    }

    static void howManyItHas() {
        Run run = new Run();
        for (int n = 20; n <= 300; n += 20) {
            due("feed to " + n, run.feed(0, -1, 1, LOWEST, HIGHEST), n);
        }
    }

    static void exactly300IsNotFull() {
        Run run = tapeOf(280);
        due(run.feed(0, 0, 0, 0, 0), 300);
    }

    static void wouldHave301IsFull() {
        Run run = tapeOf(281);
        due(run.feed(0, 0, 0, 0, 0), FULL);
    }

    static void wouldHave319IsFull() {
        Run run = tapeOf(299);
        due(run.feed(0, 0, 0, 0, 0), FULL);
    }

    static void wouldHave320IsFull() {
        Run run = tapeOf(300);
        due(run.feed(0, 0, 0, 0, 0), FULL);
        due(run.feed(0, 0, 0, 0, 0), FULL);
    }

    static void fullBringsNoByteToTheTape() {
        Run run = tapeOf(281);
        run.feed("yyyyyyyyyyyyyyyyyyyy");
        due(run.end(282), REFUSED);
        due(run.end(281), 281);
        due(run.plain(), 1);
        run = tapeOf(300);
        run.feed(0, 0, 0, 0, 0);
        due(run.end(300), 300);
        due(run.plain(), 1);
        due(run.terms(), "x".repeat(24));
    }

    static void fullChangesNoByteOfTheTape() {
        Run run = new Run();
        run.type("one two" + " ".repeat(289) + "last");
        run.feed("yyyyyyyyyyyyyyyyyyyy");
        run.read();
        due(run.terms(), "one two last");
    }

    static void afterFullThereIsRoomWhenTheTapeIsCut() {
        Run run = tapeOf(300);
        run.feed(0, 0, 0, 0, 0);
        run.end(280);
        due(run.feed(0, 0, 0, 0, 0), 300);
    }

    static void afterFullThereIsRoomWhenTheTapeIsRead() {
        Run run = tapeOf(300);
        run.feed(0, 0, 0, 0, 0);
        run.read();
        due(run.feed(0, 0, 0, 0, 0), 20);
    }

    static void theTextStays() {
        Run run = Run.ofText("one two");
        for (int i = 0; i < 16; i++) {
            run.feed("tape tape tape tape ");
        }
        due(run.terms(), "one two");
    }

    private static Run tapeOf(int n) {
        Run run = new Run();
        run.type("x".repeat(n));
        return run;
    }
}
