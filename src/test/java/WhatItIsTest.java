/** What it is: "An object is used for at most 512 calls after it has been made". So the 512th still answers. */
public final class WhatItIsTest extends Check {
    private static final String TEXT = "house mouse Mice mouses", TAPE = "MOUSY";

    public static void main(String[] args) {
        runTests(WhatItIsTest.class);
    }

    static void feedAsCall512() {
        Run run = with511Calls();
        due(run.feed(0, 0, 0, 0, 0), 25);
        due(run.calls(), 512);
    }

    static void endAsCall512() {
        due(with511Calls().end(5), 5);
    }

    static void readAsCall512() {
        due(with511Calls().read(), 1);
    }

    static void signAsCall512() {
        due(with511Calls().sign(2, 0), (int) 'm');
    }

    static void differentAsCall512() {
        due(with511Calls().different(), 3);
    }

    static void firstAsCall512() {
        due(with511Calls().first(3), 1);
    }

    static void compareAsCall512() {
        due(with511Calls().compare(1, 2), 1);
    }

    static void apartAsCall512() {
        due(with511Calls().apart(1), 1);
    }

    static void nearestAsCall512() {
        due(with511Calls().nearest(), 1);
    }

    static void plainAsCall512() {
        due(with511Calls().plain(), 5);
    }

    private static Run with511Calls() {
        Run run = new Run();
        int left = 1 + Run.callsToType(TEXT) + 1 + Run.callsToType(TAPE);
        for (int i = 0; run.calls() < 511 - left; i++) {
            anyCall(run, i);
        }
        run.end(0);
        run.type(TEXT);
        run.read();
        run.type(TAPE);
        return run;
    }

    private static void anyCall(Run run, int i) {
        switch (i % 11) {
            case 0, 1 -> run.feed(0x61626364, 0x65666768, 0x7a7a7a20, 0x6d6e6f70, 0x71726973);
            case 2 -> run.end(i % 3 == 0 ? 11 : 40);
            case 3 -> run.nearest();
            case 4 -> run.sign(i, -1);
            case 5 -> run.feed(0x30313233, 0x34353637, 0x20202020, -1, 0x41424344);
            case 6 -> run.end(9);
            case 7 -> run.different();
            case 8 -> run.plain();
            case 9 -> run.apart(0);
            default -> run.read();
        }
    }
}
