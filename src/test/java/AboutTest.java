/** Promises 12 to 14: about, same, below. */
public final class AboutTest {
    private static final int[] NO_PLACES = {-1, 8, 9, Integer.MAX_VALUE, Integer.MIN_VALUE};

    public static void main(String[] args) {
        objectsAreLookedThrough();
        sharedPartsCountOnce();
        wrongQuestions();
        equalOnesAreTheSame();
        lowerTextsAreBelow();
        only200CharactersCount();
        Checks.finish();
    }

    private static void about(String text, int... wants) {
        ObjectTexts x = Checks.with(text);
        for (int what = 0; what < wants.length; what++) {
            Checks.due("about(0, " + what + ") of [" + text + "]", x.about(0, what), wants[what]);
        }
    }

    private static void objectsAreLookedThrough() {
        about("nil", 1, 0, 0, 0, 1);
        about("()", 1, 0, 0, 0, 1);
        about("t", 1, 0, -1, 0, 1);
        about("5", 0, 0, -1, 0, 1);
        about("(a)", 2, 1, 1, 1, 2);
        about("(a . b)", 2, 1, -1, 1, 2);
        about("(a a a)", 2, 3, 3, 3, 2);
        about("(a b . c)", 2, 2, -1, 2, 3);
        about("((a) (a))", 2, 3, 2, 3, 2);
        about("((a) a)", 2, 2, 2, 2, 2);
        about("((a . b) . (a . b))", 2, 2, -1, 2, 2);
        about("'a", 2, 2, 2, 2, 3);
        about("(nil)", 2, 1, 1, 1, 1);
        about("(1 01 x 001)", 2, 4, 4, 4, 3);
        about("((((a))))", 2, 4, 1, 4, 2);
        about("(a . nil)", 2, 1, 1, 1, 2);
        about("(1 . 1)", 2, 1, -1, 1, 1);
    }

    private static void sharedPartsCountOnce() {
        ObjectTexts x = new ObjectTexts();
        for (int k = 0; k < 450; k++) {
            x.cons(0, 0, 0);
        }
        Checks.due("about(0, 1)", x.about(0, 1), 450);
        Checks.due("about(0, 2)", x.about(0, 2), 450);
        Checks.due("about(0, 3)", x.about(0, 3), 450);
        Checks.due("about(0, 4)", x.about(0, 4), 1);
        Checks.due("about(0, 3) again", x.about(0, 3), 450);
        x.side(0, 1, 1);
        Checks.due("about(1, 3)", x.about(1, 3), 449);
    }

    private static void wrongQuestions() {
        ObjectTexts x = Checks.with("(a b)");
        for (int p : NO_PLACES) {
            for (int what = -1; what <= 5; what++) {
                Checks.due("about(" + p + ", " + what + ")", x.about(p, what), -1);
            }
            Checks.due("same(" + p + ", 0)", x.same(p, 0), false);
            Checks.due("same(0, " + p + ")", x.same(0, p), false);
            Checks.due("same(" + p + ", " + p + ")", x.same(p, p), false);
            Checks.due("below(" + p + ", 1)", x.below(p, 1), false);
            Checks.due("below(0, " + p + ")", x.below(0, p), false);
        }
        for (int what : new int[] {-1, 5, 6, Integer.MAX_VALUE, Integer.MIN_VALUE}) {
            Checks.due("about(0, " + what + ")", x.about(0, what), -1);
        }
    }

    private static void equalOnesAreTheSame() {
        ObjectTexts x = Checks.with("(a (1 . b) 'c)", "(a (01 . b) (quote c))", "a", "1",
            "(a . (b))", "(a b . c)");
        Checks.due("same(0, 1)", x.same(0, 1), true);
        Checks.due("same(1, 0)", x.same(1, 0), true);
        Checks.due("same(2, 3)", x.same(2, 3), false);
        Checks.due("same(4, 5)", x.same(4, 5), false);
        Checks.due("same(6, 7)", x.same(6, 7), true);
        Checks.due("same(2, 2)", x.same(2, 2), true);
        x.side(4, 0, 6);
        Checks.due("same(2, 6)", x.same(2, 6), true);
        x.side(4, 1, 7);
        x.cons(6, 7, 0);
        Checks.due("same(4, 0)", x.same(4, 0), true);
        x.set(7, 1);
        Checks.due("same(3, 7)", x.same(3, 7), true);
        // Symbols and naturals with numbers alike inside must not meet.
        ObjectTexts y = Checks.with("a", "b", "z", "_", "aa");
        for (long n = 0; n < 100; n++) {
            y.set(5, n);
            for (int p = 0; p < 5; p++) {
                Checks.due("same(" + p + ", 5) of " + n, y.same(p, 5), false);
            }
        }
    }

    private static void isBelow(String low, String high) {
        ObjectTexts x = Checks.with(low, high);
        Checks.due("[" + low + "] below [" + high + "]", x.below(0, 1), true);
        Checks.due("[" + high + "] below [" + low + "]", x.below(1, 0), false);
        Checks.due("[" + low + "] below itself", x.below(0, 0), false);
    }

    private static void lowerTextsAreBelow() {
        isBelow("a", "b");
        isBelow("a", "aa");
        isBelow("10", "9");
        isBelow("1", "10");
        isBelow("9", "a");
        isBelow("(z)", "0");
        isBelow("'z", "(a)");
        isBelow("(a b)", "(a)");
        isBelow("(a)", "(aa)");
        isBelow("(a . z)", "(a 0)");
        isBelow("nil", "t");
        isBelow("+", "-");
        isBelow("?", "_");
        isBelow("_", "a");
        isBelow("007", "8");
    }

    private static void only200CharactersCount() {
        // 1 + 2 * 99 characters ahead of the last atom, which begins at the 200th.
        String list = "(" + "a ".repeat(99);
        isBelow(list + "b)", list + "c)");
        ObjectTexts x = Checks.with(list + "bc)", list + "bd)", list + "b)", list + "b x)");
        for (int p = 0; p < 4; p++) {
            for (int q = 0; q < 4; q++) {
                Checks.due("below(" + p + ", " + q + ")", x.below(p, q), false);
            }
        }
        String shorter = "(" + "a ".repeat(98);
        // These end, or differ, with character 199 (the 200th).
        isBelow(shorter + "ab )", shorter + "abc)");
        isBelow(shorter + "ab . c)", shorter + "abc)");
        isBelow(shorter + "a )", shorter + "ab)");
    }
}
