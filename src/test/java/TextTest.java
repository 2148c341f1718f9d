/** Promises 2 and 3: feed, end. */
public final class TextTest {
    public static void main(String[] args) {
        bytesComeHighestFirst();
        onlyTheFirstCome();
        feedPutsAllTwentyAnew();
        bytesAreZeroBehindAnEnd();
        bytesStayBehindARefusedEnd();
        wrongCountsAreRefused();
        textIsFullAt3000();
        Checks.finish();
    }

    private static void bytesComeHighestFirst() {
        ObjectTexts x = new ObjectTexts();
        x.feed(0x28616263, 0x20646566, 0x20676869, 0x206a6b6c, 0x206d6e29);
        Checks.due("end(20)", x.end(20), 20);
        Checks.due("read(0)", x.read(0), 0);
        Checks.due("tell(0)", Checks.told(x, 0), "(abc def ghi jkl mn)");
    }

    private static void onlyTheFirstCome() {
        for (int n = 1; n <= 11; n++) {
            ObjectTexts x = new ObjectTexts();
            Checks.feed(x, "abcdefghijklmnopqrst");
            Checks.due("end(" + n + ")", x.end(n), n);
            Checks.due("read(0)", x.read(0), 0);
            Checks.due("tell(0)", Checks.told(x, 0), "abcdefghijklmnopqrst".substring(0, n));
        }
        ObjectTexts x = new ObjectTexts();
        Checks.feed(x, "ab");
        Checks.due("end(0)", x.end(0), 0);
        Checks.due("end(1)", x.end(1), 1);
        Checks.due("read(0): the bytes were 0 behind end(0)", x.read(0), 1);
    }

    private static void feedPutsAllTwentyAnew() {
        ObjectTexts x = new ObjectTexts();
        Checks.feed(x, "aaaaaaaaaaaaaaaaaaaa");
        Checks.feed(x, "bc ");
        Checks.due("end(4)", x.end(4), 4);
        Checks.due("read(0)", x.read(0), 1);
        Checks.due("fault(1)", x.fault(1), 3);
    }

    private static void bytesAreZeroBehindAnEnd() {
        ObjectTexts x = new ObjectTexts();
        Checks.feed(x, "(a)  (b)");
        Checks.due("end(3)", x.end(3), 3);
        Checks.due("end(2)", x.end(2), 5);
        Checks.due("read(0)", x.read(0), 1);
        Checks.due("fault(1)", x.fault(1), 3);
    }

    private static void bytesStayBehindARefusedEnd() {
        ObjectTexts x = new ObjectTexts();
        Checks.feed(x, "abc");
        Checks.due("end(21)", x.end(21), -1);
        Checks.due("end(-1)", x.end(-1), -1);
        Checks.due("end(3)", x.end(3), 3);
        Checks.due("read(9)", x.read(9), -1);
        Checks.due("read(0)", x.read(0), 0);
        Checks.due("tell(0)", Checks.told(x, 0), "abc");
    }

    private static void wrongCountsAreRefused() {
        ObjectTexts x = new ObjectTexts();
        for (int n : new int[] {-1, 21, 22, -20, 3000, Integer.MAX_VALUE, Integer.MIN_VALUE}) {
            Checks.due("end(" + n + ")", x.end(n), -1);
        }
        Checks.due("end(0)", x.end(0), 0);
    }

    private static void textIsFullAt3000() {
        ObjectTexts x = new ObjectTexts();
        for (int k = 1; k < 150; k++) {
            Checks.feed(x, "                    ");
            Checks.due("end(20)", x.end(20), 20 * k);
        }
        Checks.feed(x, "        ");
        Checks.due("end(1)", x.end(1), 2981);
        Checks.feed(x, "          (a b)(c d)");
        Checks.due("end(20) beyond 3000", x.end(20), -1);
        Checks.due("end(15)", x.end(15), 2996);
        Checks.feed(x, "    x");
        Checks.due("end(5) beyond 3000", x.end(5), -1);
        Checks.due("end(4) to 3000", x.end(4), 3000);
        Checks.due("end(1) beyond 3000", x.end(1), -1);
        Checks.due("end(0) at 3000", x.end(0), 3000);
        Checks.due("read(0)", x.read(0), 0);
        Checks.due("tell(0)", Checks.told(x, 0), "(a b)");
        Checks.due("end(0) behind read", x.end(0), 0);
    }
}
