/** Promises 2 and 3: feed, end. */
public final class TextTest {
    private static final int NONE = Run.NONE;
    private static final String TWENTY = "(bc de fg hi jk lmn)";

    public static void main(String[] args) {
        bytesComeInTheirOrder();
        everyByteComesAsItIs();
        feedPutsAllTwentyAnew();
        bytesAreZeroAtFirst();
        bytesAreZeroBehindAnEnd();
        bytesStayBehindOtherCalls();
        onlyTheFirstCome();
        textsAreJoined();
        wrongCountsAreRefused();
        moreThan3000AreRefused();
        textIsFullAt3000();
        textEndsAnywhereNear3000();
        refusedEndKeepsBytesAndText();
        Checks.finish();
    }

    private static void bytesComeInTheirOrder() {
        Checks.sentence("Promise 2",
            "Twenty bytes wait, those of a first, the highest of each first.");
        Run run = new Run();
        run.feed(0x28616263, 0x20646566, 0x20676869, 0x206a6b6c, 0x206d6e29);
        run.end(20, 20);
        run.read(0, 0);
        run.isTold(0, "(abc def ghi jkl mn)");
    }

    /** Each byte, at each of the twenty places: no bit is lost, and none spreads to another byte. */
    private static void everyByteComesAsItIs() {
        Checks.sentence("Promise 2",
            "Twenty bytes wait, those of a first, the highest of each first.");
        for (char sign = 0; sign < 256; sign++) {
            boolean isAtom = "abcdefghijklmnopqrstuvwxyz0123456789+-*/<>=?!_".indexOf(sign) >= 0;
            boolean endsLate = " \n;('".indexOf(sign) >= 0;
            boolean cantStand = ").".indexOf(sign) >= 0;
            Run run = new Run();
            for (int at = 0; at < 20; at++) {
                run.feed(" ".repeat(at) + sign + " ".repeat(19 - at));
                run.end(20, 20);
                run.read(0, isAtom ? 0 : endsLate || cantStand ? 3 : 1);
                run.fault(1, isAtom ? NONE : endsLate ? 20 : at);
                if (isAtom) {
                    run.isTold(0, String.valueOf(sign));
                }
            }
        }
    }

    private static void feedPutsAllTwentyAnew() {
        Checks.sentence("Promise 2", "Twenty bytes wait,");
        Run run = new Run();
        run.feed(TWENTY);
        run.feed("bc ");
        run.end(4, 4);
        run.read(0, 1);
        run.fault(1, 3);
        run.feed("aaaaaaaaaaaaaaaaaaaa");
        run.feed(TWENTY);
        run.end(20, 20);
        run.read(0, 0);
        run.isTold(0, TWENTY);
        run.feed(TWENTY);
        run.feed(0, 0, 0, 0, 0);
        run.end(1, 1);
        run.read(0, 1);
    }

    private static void bytesAreZeroAtFirst() {
        Checks.sentence("Promise 2",
            "(They are 0 at first, and behind each end() that is not refused.)");
        Run run = new Run();
        run.end(20, 20);
        run.read(0, 1);
        run.fault(1, 0);
        // A 0 is a character like others: in a remark it is a blank, at a word's place a FAULT.
        Run remark = new Run();
        remark.write("a;");
        remark.end(20, 22);
        remark.feed("\n");
        remark.end(1, 23);
        remark.read(0, 0);
        remark.isTold(0, "a");
    }

    private static void bytesAreZeroBehindAnEnd() {
        Checks.sentence("Promise 2",
            "(They are 0 at first, and behind each end() that is not refused.)");
        for (int n = 0; n < 20; n++) {
            Run run = new Run();
            run.write(";");
            run.feed("\n                   ");
            run.end(n, 1 + n);
            for (int k = 0; k < 20; k++) {
                // Of what waits behind the first end() every byte is 0, so no line's end comes.
                run.end(1, 2 + n + k);
            }
            run.read(0, n == 0 ? 3 : 1);
            run.fault(1, n == 0 ? 21 : 1 + n);
        }
    }

    private static void bytesStayBehindOtherCalls() {
        Checks.sentence("Promise 2",
            "(They are 0 at first, and behind each end() that is not refused.)");
        Run run = Run.with("(a b)");
        run.feed(TWENTY);
        run.read(1, 3);
        run.read(8, NONE);
        run.fault(0, 3);
        run.tell(0, 5);
        run.letter(0, '(');
        run.cons(0, 0, 2, true);
        run.side(0, 0, 3, true);
        run.set(4, 5, true);
        run.number(4, 5);
        run.about(0, 3, 2);
        run.same(0, 1, false);
        run.below(0, 1, true);
        run.end(20, 20);
        run.read(5, 0);
        run.isTold(5, TWENTY);
    }

    private static void onlyTheFirstCome() {
        Checks.sentence("Promise 3",
            "The first n of the bytes that wait come behind the TEXT: how many it has.");
        for (int n = 1; n <= 11; n++) {
            Run run = new Run();
            run.feed("abcdefghijklmnopqrst");
            run.end(n, n);
            run.read(0, 0);
            run.isTold(0, "abcdefghijklmnopqrst".substring(0, n));
        }
        for (int n = 1; n <= 20; n++) {
            Run run = new Run();
            run.feed("a".repeat(n - 1) + "#" + "b".repeat(20 - n));
            run.end(n - 1, n - 1);
            run.read(0, n == 1 ? 3 : n <= 12 ? 0 : 2);
            run.feed(" ".repeat(n - 1) + "#" + "b".repeat(20 - n));
            run.end(n, n);
            run.read(0, 1);
            run.fault(1, n - 1);
        }
        Run none = new Run();
        none.feed(TWENTY);
        none.end(0, 0);
        none.read(0, 3);
        none.fault(1, 0);
    }

    private static void textsAreJoined() {
        Checks.sentence("Promise 3",
            "The first n of the bytes that wait come behind the TEXT: how many it has.");
        Run run = new Run();
        int length = 0;
        for (int n = 1; n <= 20; n++) {
            length += n;
            run.feed(" ".repeat(n - 1) + (n == 1 ? "(" : n == 20 ? ")" : "a"));
            run.end(n, length);
        }
        run.end(0, 210);
        run.read(0, 0);
        run.isTold(0, "(" + "a ".repeat(17) + "a)");
        run.end(0, 0);
        run.write("ab");
        run.write("cd");
        run.read(0, 0);
        run.isTold(0, "abcd");
    }

    private static void wrongCountsAreRefused() {
        Checks.sentence("Promise 3", "NONE, refused, when n isn't 0 .. 20,");
        Run run = new Run();
        int[] wrong = {-1, 21, -2, 22, -20, 40, 255, 256, 276, 3000, -3000, 1 << 16, Integer.MAX_VALUE,
            Integer.MIN_VALUE, Integer.MIN_VALUE + 20};
        for (int n : wrong) {
            run.end(n, NONE);
        }
        run.end(0, 0);
        run.write("(a");
        for (int n : wrong) {
            run.end(n, NONE);
        }
        run.end(0, 2);
        run.end(20, 22);
        run.end(20, 42);
    }

    /** A TEXT of blanks, so long. */
    private static Run full(int length) {
        Run run = new Run();
        run.write(" ".repeat(length));
        return run;
    }

    private static void moreThan3000AreRefused() {
        Checks.sentence("Promise 3", "or there would be more than 3000.");
        for (int n = 0; n <= 20; n++) {
            Run run = full(3000 - n);
            run.feed(TWENTY);
            if (n < 20) {
                run.end(n + 1, NONE);
                run.end(20, NONE);
            }
            run.end(n, 3000);
            run.end(1, NONE);
            run.end(20, NONE);
            run.end(21, NONE);
            run.end(-1, NONE);
            run.end(0, 3000);
        }
    }

    private static void textIsFullAt3000() {
        Checks.sentence("Promise 3 (Terms)", "A TEXT has at most 3000 characters,");
        Run run = full(2994);
        run.write("(a b)");
        run.end(0, 2999);
        run.feed("  ");
        run.end(2, NONE);
        run.end(1, 3000);
        run.end(1, NONE);
        run.read(0, 0);
        run.isTold(0, "(a b)");
        // What was read is gone, so there is room again.
        run.end(0, 0);
        run.write("(c d)");
        run.read(0, 0);
        run.isTold(0, "(c d)");
    }

    private static void textEndsAnywhereNear3000() {
        Checks.sentence("Promise 3 (Terms)", "A TEXT has at most 3000 characters,");
        for (int length : new int[] {2999, 3000}) {
            Run blank = full(length);
            blank.read(0, 3);
            blank.fault(1, length);
            Run atom = full(length - 1);
            atom.write("a");
            atom.read(0, 0);
            atom.isTold(0, "a");
            Run strange = full(length - 1);
            strange.write("#");
            strange.read(0, 1);
            strange.fault(1, length - 1);
        }
        Run.reads("7" + ";".repeat(2999), "7");
        Run.reads("0".repeat(3000), "0");
        Run.fails("(" + " ".repeat(2999), 3, 3000);
    }

    private static void refusedEndKeepsBytesAndText() {
        Checks.sentence("Promise 3",
            "NONE, refused, when n isn't 0 .. 20, or there would be more than 3000.");
        Run run = new Run();
        run.write("(a ");
        run.feed("b)");
        run.end(21, NONE);
        run.end(-1, NONE);
        run.end(Integer.MAX_VALUE, NONE);
        run.end(2, 5);
        run.read(0, 0);
        run.isTold(0, "(a b)");
        Run full = full(2990);
        full.feed("  (a . b)  ");
        full.end(11, NONE);
        full.end(20, NONE);
        full.end(9, 2999);
        full.read(0, 0);
        full.isTold(0, "(a . b)");
    }
}
