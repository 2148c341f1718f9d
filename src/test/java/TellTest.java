/** Promises 6 and 7: tell, letter. */
public final class TellTest {
    public static void main(String[] args) {
        quotesAreTold();
        listsAreTold();
        naturalsAreTold();
        outIsCut();
        outStays();
        deepObjectsAreTold();
        Checks.finish();
    }

    private static void tells(String text, String told) {
        ObjectTexts x = Checks.with(text);
        Checks.due("[" + text + "]", Checks.told(x, 0), told);
    }

    private static void quotesAreTold() {
        tells("(quote a)", "'a");
        tells("(quote (quote a))", "''a");
        tells("(quote . (a . nil))", "'a");
        tells("(quote quote)", "'quote");
        tells("(quote nil)", "'nil");
        tells("quote", "quote");
        tells("(quote)", "(quote)");
        tells("(quote . a)", "(quote . a)");
        tells("(quote a b)", "(quote a b)");
        tells("(quote a . b)", "(quote a . b)");
        tells("(a quote b)", "(a quote b)");
        tells("(quote quote a)", "(quote quote a)");
        tells("((quote a) quote b)", "('a quote b)");
        tells("('a)", "('a)");
        tells("('(a . b) . ''c)", "('(a . b) quote 'c)");
        tells("((quote) a)", "((quote) a)");
    }

    private static void listsAreTold() {
        tells("(a (b (c) d) (e))", "(a (b (c) d) (e))");
        tells("(a . (b . (c . 5)))", "(a b c . 5)");
        tells("(nil . nil)", "(nil)");
        tells("(nil nil . t)", "(nil nil . t)");
        tells("(((a . b) . c) . d)", "(((a . b) . c) . d)");
    }

    private static void naturalsAreTold() {
        long[] naturals = {0, 1, 9, 10, 11, 99, 100, 101, 1000000000000000000L,
            999999999999999999L, 4611686018427387903L, 4611686018427387902L, 1L << 32};
        ObjectTexts x = new ObjectTexts();
        for (long n : naturals) {
            x.set(2, n);
            Checks.due("tell of " + n, Checks.told(x, 2), Long.toString(n));
        }
    }

    private static void outIsCut() {
        // 1 + 4 * 499 + 3 characters: 2000 with the ) and 2001 with one more.
        String list = "(" + "abc ".repeat(499);
        tells(list + "de)", list + "de)");
        tells(list + "d)", list + "d)");
        tells(list + "def)", list + "def");
        tells(list + "defg)", list + "def");
        tells(list + "de . f)", list + "de ");
        tells(list + "d . e)", list + "d .");
        tells(list + "x (a))", list + "x (");
    }

    private static void outStays() {
        ObjectTexts x = Checks.with("(a b)");
        Checks.due("letter(0) before tell", x.letter(0), -1);
        Checks.due("tell(0)", x.tell(0), 5);
        for (int p : new int[] {-1, 8, Integer.MAX_VALUE, Integer.MIN_VALUE}) {
            Checks.due("tell(" + p + ")", x.tell(p), -1);
            Checks.due("OUT", Checks.out(x), "(a b)");
        }
        x.set(0, 5);
        x.below(0, 1);
        Checks.due("read of a fault", Checks.read(x, 0, "(a"), 3);
        Checks.due("OUT", Checks.out(x), "(a b)");
        for (int k : new int[] {-1, 5, 6, 2000, Integer.MAX_VALUE, Integer.MIN_VALUE}) {
            Checks.due("letter(" + k + ")", x.letter(k), -1);
        }
        Checks.due("letter(4)", x.letter(4), ')');
        Checks.due("tell(0)", x.tell(0), 1);
        Checks.due("letter(1) of a shorter OUT", x.letter(1), -1);
    }

    private static void deepObjectsAreTold() {
        ObjectTexts x = new ObjectTexts();
        for (int k = 0; k < 400; k++) {
            x.cons(0, 1, 0);
        }
        Checks.due("400 deep", Checks.told(x, 0), "(".repeat(400) + "nil" + ")".repeat(400));
        ObjectTexts y = Checks.with("'".repeat(40) + "a", "quote");
        for (int k = 0; k < 200; k++) {
            y.cons(0, 2, 3);
            y.cons(1, 3, 0);
        }
        Checks.due("240 deep", Checks.told(y, 0), "'".repeat(240) + "a");
    }
}
