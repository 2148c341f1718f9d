/** Promises 8 to 11: cons, side, set, number. */
public final class PairTest {
    private static final int[] NO_PLACES = {-1, 8, 9, Integer.MAX_VALUE, Integer.MIN_VALUE};

    public static void main(String[] args) {
        pairsArePutTogether();
        pairsAreTakenApart();
        naturalsAreSet();
        numbersAreTold();
        Checks.finish();
    }

    private static void pairsArePutTogether() {
        ObjectTexts x = Checks.with("a", "(b c)");
        Checks.due("cons(0, 1, 2)", x.cons(0, 1, 2), true);
        Checks.due("place 2", Checks.told(x, 2), "(a b c)");
        Checks.due("cons(1, 0, 7)", x.cons(1, 0, 7), true);
        Checks.due("place 7", Checks.told(x, 7), "((b c) . a)");
        Checks.due("place 0", Checks.told(x, 0), "a");
        Checks.due("place 1", Checks.told(x, 1), "(b c)");
        Checks.due("cons(0, 0, 0)", x.cons(0, 0, 0), true);
        Checks.due("place 0", Checks.told(x, 0), "(a . a)");
        for (int p : NO_PLACES) {
            Checks.due("cons(" + p + ", 1, 2)", x.cons(p, 1, 2), false);
            Checks.due("cons(1, " + p + ", 2)", x.cons(1, p, 2), false);
            Checks.due("cons(1, 2, " + p + ")", x.cons(1, 2, p), false);
        }
        Checks.due("place 2 stays", Checks.told(x, 2), "(a b c)");
    }

    private static void pairsAreTakenApart() {
        ObjectTexts x = Checks.with("(a . (b . c))", "7", "sym");
        Checks.due("side(0, 0, 4)", x.side(0, 0, 4), true);
        Checks.due("place 4", Checks.told(x, 4), "a");
        Checks.due("side(0, 1, 5)", x.side(0, 1, 5), true);
        Checks.due("place 5", Checks.told(x, 5), "(b . c)");
        Checks.due("side(5, 1, 5)", x.side(5, 1, 5), true);
        Checks.due("place 5", Checks.told(x, 5), "c");
        for (int p : new int[] {1, 2, 3, 5}) {
            Checks.due("side(" + p + ", 0, 0) of no pair", x.side(p, 0, 0), false);
            Checks.due("side(" + p + ", 1, 0) of no pair", x.side(p, 1, 0), false);
        }
        for (int which : new int[] {-1, 2, 3, Integer.MAX_VALUE, Integer.MIN_VALUE}) {
            Checks.due("side(0, " + which + ", 0)", x.side(0, which, 0), false);
        }
        for (int p : NO_PLACES) {
            Checks.due("side(" + p + ", 0, 0)", x.side(p, 0, 0), false);
            Checks.due("side(0, 0, " + p + ")", x.side(0, 0, p), false);
        }
        Checks.due("place 0 stays", Checks.told(x, 0), "(a b . c)");
    }

    private static void naturalsAreSet() {
        ObjectTexts x = new ObjectTexts();
        long most = (1L << 62) - 1;
        for (long n : new long[] {0, 1, 42, 1L << 40, most - 1, most}) {
            Checks.due("set(6, " + n + ")", x.set(6, n), true);
            Checks.due("number(6)", x.number(6), n);
        }
        for (long n : new long[] {-1, -2, most + 1, Long.MAX_VALUE, Long.MIN_VALUE}) {
            Checks.due("set(6, " + n + ")", x.set(6, n), false);
            Checks.due("number(6) stays", x.number(6), most);
        }
        for (int p : NO_PLACES) {
            Checks.due("set(" + p + ", 5)", x.set(p, 5), false);
        }
    }

    private static void numbersAreTold() {
        ObjectTexts x = Checks.with("0", "0012", "x", "(1)", "4611686018427387903");
        Checks.due("number(0)", x.number(0), 0);
        Checks.due("number(1)", x.number(1), 12);
        Checks.due("number(2) of a symbol", x.number(2), -1);
        Checks.due("number(3) of a pair", x.number(3), -1);
        Checks.due("number(4)", x.number(4), 4611686018427387903L);
        Checks.due("number(5) of nil", x.number(5), -1);
        for (int p : NO_PLACES) {
            Checks.due("number(" + p + ")", x.number(p), -1);
        }
    }
}
