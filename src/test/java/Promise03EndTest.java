/** Promise 3: "The TAPE is cut to its first n bytes: n; REFUSED if it has less, or n is below 0." */
public final class Promise03EndTest extends Check {
    public static void main(String[] args) {
        runTests(Promise03EndTest.class);
    }

    static void theFirstBytesStay() {
        Run run = tape("abc def");
        due(run.end(5), 5);
        due(run.onTape(), 5);
        run.read();
        due(run.terms(), "abc d");
    }

    static void asManyAsItHasCutsNothing() {
        Run run = tape("abc def");
        due(run.end(7), 7);
        run.read();
        due(run.terms(), "abc def");
    }

    static void zeroLeavesNothing() {
        Run run = tape("abc");
        due(run.end(0), 0);
        due(run.end(1), REFUSED);
        due(run.read(), 0);
    }

    static void zeroOfAnEmptyTape() {
        due(new Run().end(0), 0);
    }

    static void oneMoreThanItHasIsRefused() {
        due(tape("abc def").end(8), REFUSED);
        due(new Run().end(1), REFUSED);
    }

    static void whatWasCutDoesNotComeBack() {
        Run run = tape("abc def");
        run.end(5);
        due(run.end(6), REFUSED);
        due(run.end(7), REFUSED);
    }

    static void aFullTape() {
        Run run = tape("x".repeat(300));
        due(run.end(301), REFUSED);
        due(run.end(300), 300);
        due(run.end(299), 299);
    }

    static void theHighestNumberIsRefused() {
        due(tape("abc").end(HIGHEST), REFUSED);
    }

    static void belowZeroIsRefused() {
        due(tape("abc").end(-1), REFUSED);
        due(tape("abc").end(-3), REFUSED);
        due(new Run().end(-1), REFUSED);
    }

    static void theLowestNumberIsRefused() {
        due(tape("abc").end(LOWEST), REFUSED);
    }

    static void refusedLeavesTheTape() {
        for (int wrong : new int[] {8, 20, 301, HIGHEST, -1, -7, LOWEST}) {
            Run run = tape("abc def");
            run.end(wrong);
            due("bytes after end(" + wrong + ")", run.onTape(), 7);
            run.read();
            due("terms after end(" + wrong + ")", run.terms(), "abc def");
        }
    }

    static void theTextStays() {
        Run run = Run.ofText("one two");
        run.type("tape");
        run.end(2);
        run.end(9);
        run.end(-1);
        run.end(0);
        due(run.terms(), "one two");
    }

    private static Run tape(String text) {
        Run run = new Run();
        run.type(text);
        return run;
    }
}
