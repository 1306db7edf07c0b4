/** Promise 5: "Sign i of term k of the TEXT; for i -1 how many it has. NONE if there is none". */
public final class Promise05SignTest extends Check {
    public static void main(String[] args) {
        runTests(Promise05SignTest.class);
    }

    static void theSigns() {
        Run run = Run.ofText("Ab9 xyz");
        due(run.sign(0, 0), 97);
        due(run.sign(0, 1), 98);
        due(run.sign(0, 2), 57);
        due(run.sign(1, 0), 120);
        due(run.sign(1, 2), 122);
    }

    static void howManyForMinusOne() {
        Run run = Run.ofText("a flies " + "x".repeat(24) + " " + "y".repeat(25));
        due(run.sign(0, -1), 1);
        due(run.sign(1, -1), 3);
        due(run.sign(2, -1), 24);
        due(run.sign(3, -1), 24);
    }

    static void noneBehindTheLastSign() {
        Run run = Run.ofText("abc cats flies");
        due(run.sign(0, 3), NONE);
        due(run.sign(1, 3), NONE);
        due(run.sign(2, 3), NONE);
    }

    static void noneBehindTheLastOf24() {
        Run run = Run.ofText("x".repeat(25) + " y");
        due(run.sign(0, 23), (int) 'x');
        due(run.sign(0, 24), NONE);
    }

    static void noneForTheHighestSign() {
        due(Run.ofText("abc").sign(0, HIGHEST), NONE);
    }

    static void noneBelowMinusOne() {
        Run run = Run.ofText("abc def");
        due(run.sign(0, -2), NONE);
        due(run.sign(1, -2), NONE);
        due(run.sign(1, -24), NONE);
    }

    static void noneForTheLowestSign() {
        due(Run.ofText("abc").sign(0, LOWEST), NONE);
    }

    static void noneBehindTheLastTerm() {
        Run run = Run.ofText("abc def");
        due(run.sign(2, 0), NONE);
        due(run.sign(2, -1), NONE);
        due(run.sign(HIGHEST, 0), NONE);
        due(run.sign(HIGHEST, -1), NONE);
    }

    static void noneBelowTermZero() {
        Run run = Run.ofText("abc def");
        due(run.sign(-1, 0), NONE);
        due(run.sign(-1, -1), NONE);
        due(run.sign(-1, 24), NONE);
        due(run.sign(LOWEST, 0), NONE);
        due(run.sign(LOWEST, -1), NONE);
    }

    static void noneBehind150Terms() {
        Run run = Run.ofText("a ".repeat(150));
        due(run.sign(149, 0), (int) 'a');
        due(run.sign(150, 0), NONE);
        due(run.sign(150, -1), NONE);
        due(run.sign(151, -1), NONE);
    }

    static void noneWhoseNumberWrapsAround() {
        Run run = Run.ofText("abc def");
        due(run.sign(1 << 29, 0), NONE);
        due(run.sign(1 << 30, -1), NONE);
        due(run.sign(1 << 31, 0), NONE);
        due(run.sign(0, (1 << 30) + 1), NONE);
    }

    static void noneInAnEmptyText() {
        Run run = Run.ofText(" ");
        due(run.sign(0, 0), NONE);
        due(run.sign(0, -1), NONE);
    }

    static void noneOfAFormerText() {
        Run run = Run.ofText("longer words");
        run.type("ab");
        run.read();
        due(run.sign(0, 2), NONE);
        due(run.sign(1, 0), NONE);
        due(run.sign(1, -1), NONE);
    }

    static void noneOfTheWordOnTheTape() {
        Run run = Run.ofText("abc");
        run.type("def");
        run.apart(0);
        due(run.sign(1, -1), NONE);
        due(run.sign(150, -1), NONE);
    }

    static void tapeAndTextStay() {
        Run run = Run.ofText("abc def");
        run.type("tape");
        run.sign(0, 0);
        run.sign(0, -1);
        run.sign(7, 7);
        due(run.onTape(), 4);
        due(run.terms(), "abc def");
    }
}
