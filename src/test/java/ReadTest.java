/** Promises 4 and 5: read, fault. */
public final class ReadTest {
    private static final int NONE = Run.NONE;
    /** A text of each FAULT, by its number; the first one has none. */
    private static final String[] TEXTS = {"(x y)", "(x #", "(x abcdefghijkl", "(x . )",
        "(x " + "(".repeat(40), "(" + "x ".repeat(1000)};
    private static final int[] THEIR_PLACES = {NONE, 3, 3, 5, 42, 1999};

    public static void main(String[] args) {
        objectComesToItsPlace();
        textIsEmptyThen();
        placeStaysBehindAFault();
        emptyTextIsNoObject();
        noSuchPlace();
        textStaysWithoutAPlace();
        faultOfTheLatestRead();
        faultBeforeARead();
        faultOfARefusedReadIsNone();
        otherQuestionsAreNone();
        Checks.finish();
    }

    private static void objectComesToItsPlace() {
        Checks.sentence("Promise 4",
            "The TEXT, which is empty then, is read: 0, and its object comes to PLACE p;");
        for (int p = 0; p < 8; p++) {
            Run run = new Run();
            run.read(p, "(a (b . 12) 'c)", 0);
            for (int q = 0; q < 8; q++) {
                run.isTold(q, q == p ? "(a (b . 12) 'c)" : "nil");
            }
        }
        Run again = Run.with("(a b)");
        again.read(0, "7", 0);
        again.number(0, 7);
        again.read(0, "()", 0);
        again.isTold(0, "nil");
    }

    private static void textIsEmptyThen() {
        Checks.sentence("Promise 4", "The TEXT, which is empty then, is read:");
        for (int fault = 0; fault <= 5; fault++) {
            Run run = new Run();
            run.read(0, TEXTS[fault], fault);
            run.end(0, 0);
            // Nothing of the text before comes to the next one, not even of its open lists.
            run.read(0, "(y (z) . w)", 0);
            run.isTold(0, "(y (z) . w)");
            run.end(0, 0);
        }
    }

    private static void placeStaysBehindAFault() {
        Checks.sentence("Promise 4", "or the FAULT (PLACE p stays).");
        for (int fault = 1; fault <= 5; fault++) {
            for (int p : new int[] {0, 7}) {
                Run run = new Run();
                run.read(p, "(a . b)", 0);
                run.read(p, TEXTS[fault], fault);
                for (int q = 0; q < 8; q++) {
                    run.isTold(q, q == p ? "(a . b)" : "nil");
                }
            }
        }
        // Even when a whole object stood ahead of the fault.
        Run run = Run.with("(a . b)");
        run.read(0, "(c) d", 3);
        run.isTold(0, "(a . b)");
    }

    private static void emptyTextIsNoObject() {
        Checks.sentence("Promise 4", "or the FAULT (PLACE p stays).");
        Run run = new Run();
        run.set(5, 8, true);
        run.read(5, 3);
        run.number(5, 8);
        run.fault(0, 3);
        run.fault(1, 0);
        run.read(5, "a", 0);
        run.read(5, 3);
        run.isTold(5, "a");
    }

    private static void noSuchPlace() {
        Checks.sentence("Promise 4", "NONE, and the TEXT stays, when there is no such PLACE.");
        Run run = new Run();
        for (int p : Run.NO_PLACES) {
            run.read(p, NONE);
        }
        run.write("(a b)");
        for (int p : Run.NO_PLACES) {
            run.read(p, NONE);
        }
        run.read(7, 0);
        run.isTold(7, "(a b)");
        run.read(8, NONE);
        for (int p = 0; p < 7; p++) {
            run.isTold(p, "nil");
        }
    }

    private static void textStaysWithoutAPlace() {
        Checks.sentence("Promise 4", "NONE, and the TEXT stays, when there is no such PLACE.");
        for (int p : Run.NO_PLACES) {
            Run run = new Run();
            run.write("(a ");
            run.read(p, NONE);
            run.end(0, 3);
            run.write("b)");
            run.read(p, NONE);
            run.end(0, 5);
            run.read(0, 0);
            run.isTold(0, "(a b)");
        }
        Run full = new Run();
        full.write(" ".repeat(3000));
        full.read(-1, NONE);
        full.read(8, NONE);
        full.end(1, NONE);
        full.end(0, 3000);
        full.read(0, 3);
        full.fault(1, 3000);
        full.end(0, 0);
    }

    private static void faultOfTheLatestRead() {
        Checks.sentence("Promise 5",
            "Of the latest read() that took a TEXT: the FAULT, 0 without one,");
        for (int before = 0; before <= 4; before++) {
            Run run = new Run();
            for (int fault = 0; fault <= 5; fault++) {
                run.read(0, TEXTS[before], before);
                run.fault(0, before);
                run.fault(1, THEIR_PLACES[before]);
                run.read(1, TEXTS[fault], fault);
                run.fault(0, fault);
                run.fault(1, THEIR_PLACES[fault]);
            }
        }
        Checks.sentence("Promise 5", "its place, NONE without one (1).");
        Run run = new Run();
        run.read(0, "#", 1);
        run.fault(1, 0);
        run.read(0, "a", 0);
        run.fault(1, NONE);
        run.read(0, "", 3);
        run.fault(1, 0);
    }

    private static void faultBeforeARead() {
        Checks.sentence("Promise 5", "or before (what 0),");
        Run run = new Run();
        run.fault(0, 0);
        Checks.sentence("Promise 5", "its place, NONE without one (1).");
        run.fault(1, NONE);
        Checks.sentence("Promise 5", "or before (what 0), its place, NONE without one (1).");
        run.write("(#");
        run.fault(0, 0);
        run.fault(1, NONE);
        run.read(8, NONE);
        run.fault(0, 0);
        run.fault(1, NONE);
    }

    private static void faultOfARefusedReadIsNone() {
        Checks.sentence("Promise 5", "Of the latest read() that took a TEXT:");
        Run run = new Run();
        run.read(0, "(a", 3);
        run.write("#");
        for (int p : Run.NO_PLACES) {
            run.read(p, NONE);
            run.fault(0, 3);
            run.fault(1, 2);
        }
        // Other calls, refused ones too, leave it as it is.
        run.end(21, NONE);
        run.tell(8, NONE);
        run.side(0, 0, 0, false);
        run.cons(0, 0, 0, true);
        run.tell(0, 5);
        run.fault(0, 3);
        run.fault(1, 2);
        run.read(0, 1);
        run.fault(0, 1);
        run.fault(1, 0);
    }

    private static void otherQuestionsAreNone() {
        Checks.sentence("Promise 5", "NONE for another what.");
        int[] others = {-1, 2, 3, 4, 5, 8, 255, 256, 257, Integer.MAX_VALUE, Integer.MIN_VALUE,
            Integer.MIN_VALUE + 1};
        Run run = new Run();
        for (int what : others) {
            run.fault(what, NONE);
        }
        run.read(0, " #", 1);
        for (int what : others) {
            run.fault(what, NONE);
        }
        run.read(0, "a", 0);
        for (int what : others) {
            run.fault(what, NONE);
        }
    }
}
