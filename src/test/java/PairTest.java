/** Promises 8 to 11: cons, side, set, number. */
public final class PairTest {
    private static final int NONE = Run.NONE;
    private static final long MOST = (1L << 62) - 1;

    public static void main(String[] args) {
        pairsArePutTogether();
        pairsOfAllPlaces();
        placesOfAPairMayBeOne();
        manyPairsArePutTogether();
        consWithoutItsPlaces();
        pairsAreTakenApart();
        sidesOfAllPlaces();
        sideWithoutItsPlaces();
        sideOfAnotherWhich();
        sideOfNoPair();
        naturalsAreSet();
        manyNaturalsAreSet();
        whatIsNoNaturalIsNotSet();
        setWithoutItsPlace();
        numbersAreTold();
        numberOfNoNatural();
        Checks.finish();
    }

    /** The PLACES 0 .. 7 hold p0 .. p7. */
    private static Run named() {
        return Run.with("p0", "p1", "p2", "p3", "p4", "p5", "p6", "p7");
    }

    private static void pairsArePutTogether() {
        Checks.sentence("Promise 8", "PLACE r gets the pair of the objects in p and q.");
        Run run = Run.with("a", "(b c)", "12");
        run.cons(0, 1, 3, true);
        run.isTold(3, "(a b c)");
        run.cons(1, 0, 4, true);
        run.isTold(4, "((b c) . a)");
        run.cons(2, 5, 5, true);
        run.isTold(5, "(12)");
        run.cons(6, 7, 6, true);
        run.isTold(6, "(nil)");
        run.isTold(0, "a");
        run.isTold(1, "(b c)");
        run.isTold(2, "12");
        run.isTold(7, "nil");
    }

    private static void pairsOfAllPlaces() {
        Checks.sentence("Promise 8", "PLACE r gets the pair of the objects in p and q.");
        for (int p = 0; p < 8; p++) {
            Run run = named();
            run.cons(p, 7 - p, p, true);
            run.isTold(p, "(p" + p + " . p" + (7 - p) + ")");
            for (int q = 0; q < 8; q++) {
                if (q != p) {
                    run.isTold(q, "p" + q);
                }
            }
        }
    }

    private static void placesOfAPairMayBeOne() {
        Checks.sentence("Promise 8", "PLACE r gets the pair of the objects in p and q.");
        Run run = Run.with("a", "b");
        run.cons(0, 1, 0, true);
        run.isTold(0, "(a . b)");
        run.cons(0, 1, 1, true);
        run.isTold(1, "((a . b) . b)");
        run.isTold(0, "(a . b)");
        run.cons(0, 0, 0, true);
        run.isTold(0, "((a . b) a . b)");
        run.cons(2, 2, 2, true);
        run.isTold(2, "(nil)");
    }

    private static void manyPairsArePutTogether() {
        Checks.sentence("Promise 8", "PLACE r gets the pair of the objects in p and q.");
        Run run = Run.with("a", "b");
        for (int k = 1; k <= 100; k++) {
            run.cons(0, 2, 2, true);
            run.about(2, 2, k);
            run.cons(1, 2, 3, true);
        }
        run.isTold(3, "(b" + " a".repeat(100) + ")");
    }

    private static void consWithoutItsPlaces() {
        Checks.sentence("Promise 8", "False when there are no such PLACES.");
        for (int none : Run.NO_PLACES) {
            Run run = named();
            run.cons(none, 1, 2, false);
            run.cons(1, none, 2, false);
            run.cons(1, 2, none, false);
            run.cons(none, none, 2, false);
            run.cons(none, 1, none, false);
            run.cons(1, none, none, false);
            run.cons(none, none, none, false);
            for (int p = 0; p < 8; p++) {
                run.isTold(p, "p" + p);
            }
        }
    }

    private static void pairsAreTakenApart() {
        Checks.sentence("Promise 9",
            "PLACE r gets the first (which 0) or second one (1) of the pair in p.");
        Run run = Run.with("(a . (b . c))", "'x");
        run.side(0, 0, 4, true);
        run.isTold(4, "a");
        run.side(0, 1, 5, true);
        run.isTold(5, "(b . c)");
        run.side(5, 1, 5, true);
        run.isTold(5, "c");
        run.side(1, 0, 6, true);
        run.isTold(6, "quote");
        run.side(1, 1, 6, true);
        run.isTold(6, "(x)");
        run.side(6, 1, 6, true);
        run.isTold(6, "nil");
        run.isTold(0, "(a b . c)");
        run.isTold(1, "'x");
        run.side(0, 0, 0, true);
        run.isTold(0, "a");
    }

    private static void sidesOfAllPlaces() {
        Checks.sentence("Promise 9",
            "PLACE r gets the first (which 0) or second one (1) of the pair in p.");
        for (int p = 0; p < 8; p++) {
            for (int r = 0; r < 8; r++) {
                Run run = new Run();
                run.read(p, "(" + p + " . x)", 0);
                run.side(p, 0, r, true);
                run.isTold(r, String.valueOf(p));
                run.read(p, "(" + p + " . x)", 0);
                run.side(p, 1, r, true);
                run.isTold(r, "x");
            }
        }
    }

    private static void sideWithoutItsPlaces() {
        Checks.sentence("Promise 9", "False when there are no such PLACES,");
        for (int none : Run.NO_PLACES) {
            Run run = Run.with("(a . b)", "(c . d)");
            for (int which = -1; which <= 2; which++) {
                run.side(none, which, 0, false);
                run.side(0, which, none, false);
                run.side(none, which, none, false);
            }
            run.isTold(0, "(a . b)");
            run.isTold(1, "(c . d)");
            run.isTold(2, "nil");
            run.isTold(7, "nil");
        }
    }

    private static void sideOfAnotherWhich() {
        Checks.sentence("Promise 9", "for another which,");
        Run run = Run.with("(a . b)");
        for (int which : new int[] {-1, 2, 3, -2, 255, 256, 257, Integer.MAX_VALUE, Integer.MIN_VALUE,
            Integer.MIN_VALUE + 1}) {
            run.side(0, which, 0, false);
            run.side(0, which, 1, false);
        }
        run.isTold(0, "(a . b)");
        run.isTold(1, "nil");
    }

    private static void sideOfNoPair() {
        Checks.sentence("Promise 9", "or when p has no pair.");
        Run run = Run.with("7", "sym", "(a)", "0", "quote");
        for (int p : new int[] {0, 1, 3, 4, 5, 7}) {
            for (int which = 0; which <= 1; which++) {
                run.side(p, which, 2, false);
                run.side(p, which, p, false);
            }
        }
        run.isTold(0, "7");
        run.isTold(1, "sym");
        run.isTold(2, "(a)");
        run.isTold(3, "0");
        run.isTold(5, "nil");
    }

    private static void naturalsAreSet() {
        Checks.sentence("Promise 10", "PLACE p gets a NATURAL.");
        Run run = named();
        for (int p = 0; p < 8; p++) {
            for (long n : new long[] {0, 1, 9, 10, 42, 1L << 31, 1L << 32, 1L << 61, MOST - 1, MOST}) {
                run.set(p, n, true);
                run.number(p, n);
            }
            run.about(p, 0, 0);
        }
        Run one = named();
        one.set(3, 5, true);
        one.number(3, 5);
        for (int p = 0; p < 8; p++) {
            one.isTold(p, p == 3 ? "5" : "p" + p);
        }
        one.read(4, "0005", 0);
        one.same(3, 4, true);
    }

    private static void manyNaturalsAreSet() {
        Checks.sentence("Promise 10", "PLACE p gets a NATURAL.");
        Run run = new Run();
        for (int k = 0; k < 256; k++) {
            run.set(k % 8, MOST - 3L * k, true);
            run.number(k % 8, MOST - 3L * k);
        }
    }

    private static void whatIsNoNaturalIsNotSet() {
        Checks.sentence("Promise 10", "or n is none.");
        Run run = Run.with("(a b)");
        for (long n : new long[] {-1, -2, MOST + 1, MOST + 2, Long.MAX_VALUE, Long.MIN_VALUE, -MOST,
            -MOST - 1, Integer.MIN_VALUE}) {
            run.set(0, n, false);
            run.isTold(0, "(a b)");
            run.set(1, n, false);
            run.isTold(1, "nil");
        }
    }

    private static void setWithoutItsPlace() {
        Checks.sentence("Promise 10", "False when there is no such PLACE,");
        Run run = named();
        for (int none : Run.NO_PLACES) {
            for (long n : new long[] {0, 5, MOST, -1, MOST + 1}) {
                run.set(none, n, false);
            }
        }
        for (int p = 0; p < 8; p++) {
            run.isTold(p, "p" + p);
        }
    }

    private static void numbersAreTold() {
        Checks.sentence("Promise 11", "The NATURAL in PLACE p;");
        Run run = Run.with("0", "1", "0012", "4611686018427387902", "4611686018427387903",
            "(7 . 8)", "007", "99999999999");
        run.number(0, 0);
        run.number(1, 1);
        run.number(2, 12);
        run.number(3, MOST - 1);
        run.number(4, MOST);
        run.number(6, 7);
        run.number(7, 99999999999L);
        run.side(5, 0, 0, true);
        run.number(0, 7);
        run.side(5, 1, 0, true);
        run.number(0, 8);
    }

    private static void numberOfNoNatural() {
        Checks.sentence("Promise 11", "NONE when there is none, or no such PLACE.");
        Run run = Run.with("x", "(1)", "nil", "-1", "1+", "(1 . 2)", "'1");
        for (int p = 0; p < 8; p++) {
            run.number(p, NONE);
        }
        for (int none : Run.NO_PLACES) {
            run.number(none, NONE);
        }
    }
}
