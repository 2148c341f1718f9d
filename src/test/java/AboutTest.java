/** Promise 12: about. */
public final class AboutTest {
    private static final int NONE = Run.NONE;

    public static void main(String[] args) {
        kindsAreTold();
        depthsAreTold();
        lengthsAreTold();
        pairsAreCounted();
        atomsAreCounted();
        sharedPartsCountOnce();
        longListsAreLookedThrough();
        noSuchPlace();
        anotherWhat();
        Checks.finish();
    }

    private static void about(String text, int what, int want) {
        Run run = Run.with(text);
        run.about(0, what, want);
        run.about(0, what, want);
    }

    private static void kindsAreTold() {
        Checks.sentence("Promise 12",
            "Of the object in PLACE p: 0 a NATURAL, 1 a SYMBOL, 2 a pair (what 0);");
        about("0", 0, 0);
        about("4611686018427387903", 0, 0);
        about("a", 0, 1);
        about("nil", 0, 1);
        about("t", 0, 1);
        about("()", 0, 1);
        about("1+", 0, 1);
        about("(a)", 0, 2);
        about("(1 . 2)", 0, 2);
        about("'a", 0, 2);
        Run run = new Run();
        for (int p = 0; p < 8; p++) {
            run.about(p, 0, 1);
            run.set(p, p, true);
            run.about(p, 0, 0);
            run.cons(p, p, p, true);
            run.about(p, 0, 2);
        }
    }

    private static void depthsAreTold() {
        Checks.sentence("Promise 12",
            "0 of what is no pair, else 1 and the greater one of both sides' (1);");
        about("nil", 1, 0);
        about("a", 1, 0);
        about("5", 1, 0);
        about("(a)", 1, 1);
        about("(a . b)", 1, 1);
        about("(a b)", 1, 2);
        about("(a b c)", 1, 3);
        about("((a) . b)", 1, 2);
        about("(a . (b))", 1, 2);
        about("((((a))))", 1, 4);
        about("((a b c) d)", 1, 4);
        about("(a (b c d))", 1, 5);
        about("((a . b) . (c . d))", 1, 2);
        about("'a", 1, 2);
        about("''a", 1, 4);
        about("(".repeat(40) + "a" + ")".repeat(40), 1, 40);
        about("'".repeat(40) + "a", 1, 80);
        Run run = new Run();
        for (int k = 1; k <= 250; k++) {
            run.cons(k % 2, 2, 1 - k % 2, true);
            run.about(1 - k % 2, 1, k);
        }
    }

    private static void lengthsAreTold() {
        Checks.sentence("Promise 12", "how many elements a LIST has, NONE of another one (2);");
        about("nil", 2, 0);
        about("()", 2, 0);
        about("(a)", 2, 1);
        about("(nil)", 2, 1);
        about("(nil nil)", 2, 2);
        about("((a b c))", 2, 1);
        about("(a . (b c))", 2, 3);
        about("'a", 2, 2);
        about("(a . 'b)", 2, 3);
        about("((a . b) (c . d))", 2, 2);
        about("(" + "a ".repeat(998) + ")", 2, 998);
        about("a", 2, NONE);
        about("t", 2, NONE);
        about("0", 2, NONE);
        about("(a . b)", 2, NONE);
        about("(a b c . d)", 2, NONE);
        about("((a) . t)", 2, NONE);
        about("(nil . 0)", 2, NONE);
        about("(" + "a ".repeat(995) + ". b)", 2, NONE);
    }

    private static void pairsAreCounted() {
        Checks.sentence("Promise 12", "how many different pairs there are in it, itself too (3);");
        about("nil", 3, 0);
        about("a", 3, 0);
        about("5", 3, 0);
        about("(a)", 3, 1);
        about("(a . b)", 3, 1);
        about("(a a)", 3, 2);
        about("((a) a)", 3, 2);
        about("((a) (a))", 3, 3);
        about("((a . b) . (a . b))", 3, 2);
        about("((a . b) . (b . a))", 3, 3);
        about("((a) . (a))", 3, 2);
        about("('a 'a)", 3, 4);
        about("('a . 'a)", 3, 3);
        about("(((x) (x)) (x) (x))", 3, 4);
        about("((1 . 2) (01 . 002))", 3, 3);
    }

    private static void atomsAreCounted() {
        Checks.sentence("Promise 12", "how many different atoms (4).");
        about("nil", 4, 1);
        about("()", 4, 1);
        about("a", 4, 1);
        about("5", 4, 1);
        about("(a)", 4, 2);
        about("(nil)", 4, 1);
        about("(a . b)", 4, 2);
        about("(a . a)", 4, 1);
        about("(a a a)", 4, 2);
        about("(a b . a)", 4, 2);
        about("(1 01 001 . 1)", 4, 1);
        about("(1 a 1+ . -1)", 4, 4);
        about("'a", 4, 3);
        about("'quote", 4, 2);
        about("((a b) (b a) . nil)", 4, 3);
        about("(t nil)", 4, 2);
    }

    private static void sharedPartsCountOnce() {
        Checks.sentence("Promise 12", "how many different pairs there are in it, itself too (3);");
        Run run = new Run();
        for (int k = 1; k <= 480; k++) {
            run.cons(0, 0, 0, true);
        }
        for (int again = 0; again < 2; again++) {
            run.about(0, 1, 480);
            run.about(0, 2, 480);
            run.about(0, 3, 480);
            run.about(0, 4, 1);
        }
        run.side(0, 1, 1, true);
        run.about(1, 3, 479);
        run.about(1, 1, 479);
        run.cons(1, 0, 2, true);
        run.about(2, 3, 481);
        run.about(2, 1, 481);
    }

    private static void longListsAreLookedThrough() {
        Checks.sentence("Promise 12", "how many different atoms (4).");
        StringBuilder text = new StringBuilder("(");
        int atoms = 0;
        for (; text.length() < 2994; atoms++) {
            text.append(atoms).append(' ');
        }
        Run run = Run.with(text + ")");
        run.about(0, 0, 2);
        run.about(0, 1, atoms);
        run.about(0, 2, atoms);
        run.about(0, 3, atoms);
        run.about(0, 4, atoms + 1);
        // 150 pairs more, each with the old list in it.
        for (int k = 0; k < 150; k++) {
            run.cons(0, 0, 0, true);
        }
        run.about(0, 1, atoms + 150);
        run.about(0, 2, atoms + 150);
        run.about(0, 3, atoms + 150);
        run.about(0, 4, atoms + 1);
    }

    private static void noSuchPlace() {
        Checks.sentence("Promise 12", "NONE when there is no such PLACE,");
        Run run = Run.with("(a b)", "7");
        for (int none : Run.NO_PLACES) {
            for (int what = -1; what <= 5; what++) {
                run.about(none, what, NONE);
            }
        }
    }

    private static void anotherWhat() {
        Checks.sentence("Promise 12", "or for another what.");
        for (String text : new String[] {"(a b)", "7", "x", "nil"}) {
            Run run = Run.with(text);
            for (int what : new int[] {-1, 5, 6, 7, -2, 255, 256, 260, Integer.MAX_VALUE,
                Integer.MIN_VALUE, Integer.MIN_VALUE + 1}) {
                run.about(0, what, NONE);
                run.about(7, what, NONE);
            }
        }
    }
}
