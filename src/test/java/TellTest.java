/** Promises 6 and 7: tell, letter; and what the Terms say of TOLD and OUT. */
public final class TellTest {
    private static final int NONE = Run.NONE;

    public static void main(String[] args) {
        naturalsAreTold();
        symbolsAreTold();
        quotesAreTold();
        otherPairsAreTold();
        oneBlankStandsBetween();
        outHasAtMost2000();
        outIsCutAnywhere();
        deepObjectsAreTold();
        everyPlaceIsTold();
        outStaysWithoutAPlace();
        outBecomesTheNextText();
        lettersHaveTheirEdges();
        Checks.finish();
    }

    private static void tells(String text, String told) {
        Run.with(text).isTold(0, told);
    }

    private static void naturalsAreTold() {
        Checks.sentence("Promise 6 (Terms)", "TOLD: NATURALS without zeros in front,");
        tells("0", "0");
        tells("00", "0");
        tells("0".repeat(40), "0");
        tells("01", "1");
        tells("0010", "10");
        tells("100", "100");
        tells("(0 00 000 . 0000)", "(0 0 0 . 0)");
        Run run = new Run();
        long power = 1;
        for (int digits = 1; digits <= 19; digits++) {
            run.set(2, power, true);
            run.isTold(2, Long.toString(power));
            run.set(2, power - 1, true);
            run.isTold(2, Long.toString(power - 1));
            power *= 10;
        }
        Run most = new Run();
        for (long n : new long[] {(1L << 62) - 1, (1L << 62) - 2, 1L << 61, 1L << 32, 1L << 31}) {
            most.set(2, n, true);
            most.isTold(2, Long.toString(n));
        }
    }

    private static void symbolsAreTold() {
        Checks.sentence("Promise 6 (Terms)", "symbols,");
        for (String symbol : new String[] {"a", "z", "_", "abcdefghijk", "zzzzzzzzzzz",
            "___________", "aaaaaaaaaaa", "-1", "00x", "x00", "nil", "t", "quote", "!_+-*/<>=?"}) {
            tells(symbol, symbol);
        }
    }

    private static void quotesAreTold() {
        Checks.sentence("Promise 6 (Terms)", "the list (quote X) as ' and X,");
        tells("(quote a)", "'a");
        tells("(quote (quote a))", "''a");
        tells("(quote . (a . nil))", "'a");
        tells("(quote quote)", "'quote");
        tells("(quote nil)", "'nil");
        tells("(quote (quote))", "'(quote)");
        tells("(quote (a . b))", "'(a . b)");
        tells("((quote a))", "('a)");
        tells("((quote a) . (quote b))", "('a quote b)");
        // Just no list (quote X).
        tells("quote", "quote");
        tells("(quote)", "(quote)");
        tells("(quote . a)", "(quote . a)");
        tells("(quote . quote)", "(quote . quote)");
        tells("(quote a b)", "(quote a b)");
        tells("(quote a . b)", "(quote a . b)");
        tells("(quote quote a)", "(quote quote a)");
        tells("(quot a)", "(quot a)");
        tells("(quotes a)", "(quotes a)");
        tells("((quote) a)", "((quote) a)");
        tells("('quote a)", "('quote a)");
        // Made from its parts, and taken to them again.
        Run run = Run.with("quote", "(a b)");
        run.cons(1, 2, 3, true);
        run.cons(0, 3, 4, true);
        run.isTold(4, "'(a b)");
        run.side(4, 1, 5, true);
        run.isTold(5, "((a b))");
    }

    private static void otherPairsAreTold() {
        Checks.sentence("Promise 6 (Terms)",
            "other pairs as lists, with . and the last one if that isn't nil;");
        tells("(a)", "(a)");
        tells("(a . nil)", "(a)");
        tells("(a . ())", "(a)");
        tells("(nil)", "(nil)");
        tells("(nil . nil)", "(nil)");
        tells("(nil . t)", "(nil . t)");
        tells("(a . b)", "(a . b)");
        tells("(a . 0)", "(a . 0)");
        tells("(a b . c)", "(a b . c)");
        tells("(a . (b . (c . 5)))", "(a b c . 5)");
        tells("(a . (b))", "(a b)");
        tells("((a . b) . c)", "((a . b) . c)");
        tells("(((a . b) . c) . d)", "(((a . b) . c) . d)");
        tells("(a (b (c) d) (e))", "(a (b (c) d) (e))");
        tells("(a quote b)", "(a quote b)");
        tells("(a . 'b)", "(a quote b)");
        tells("(a b . ''c)", "(a b quote 'c)");
    }

    private static void oneBlankStandsBetween() {
        Checks.sentence("Promise 6 (Terms)", "one blank between (also around .).");
        tells("(a    b\n\nc)", "(a b c)");
        tells("(a(b)c)", "(a (b) c)");
        tells("(a'b'c)", "(a 'b 'c)");
        tells("(a.b)", "(a . b)");
        tells("(  a   .   b  )", "(a . b)");
        tells("((a)(b).(c))", "((a) (b) c)");
        tells("( ( ) ( ) )", "(nil nil)");
        tells("'   a", "'a");
    }

    /** A list whose told text is so long: each of its atoms takes five characters. */
    private static String listOf(int length) {
        int atoms = (length - 2) / 5;
        int rest = length - 2 - 5 * atoms;
        return "(" + "abcd ".repeat(atoms) + "fghijkl".substring(0, rest) + ")";
    }

    private static void outHasAtMost2000() {
        Checks.sentence("Promise 6 (Terms)",
            "OUT has at most 2000 characters; what would come behind is left out.");
        for (int length = 1998; length <= 2006; length++) {
            String text = listOf(length);
            if (text.contains(" )")) {
                continue;
            }
            Checks.due("length of the test's text", text.length(), length);
            String told = text.substring(0, Math.min(2000, length));
            tells(text, told);
            Run run = Run.with(text);
            run.tell(0, Math.min(2000, length));
            run.letter(1998, length < 1999 ? NONE : told.charAt(1998));
            run.letter(1999, length < 2000 ? NONE : told.charAt(1999));
            run.letter(2000, NONE);
            run.letter(2001, NONE);
        }
        Run longest = Run.with(listOf(2998));
        longest.tell(0, 2000);
        longest.letter(1999, listOf(2998).charAt(1999));
        longest.letter(2000, NONE);
    }

    private static void outIsCutAnywhere() {
        Checks.sentence("Promise 6 (Terms)",
            "OUT has at most 2000 characters; what would come behind is left out.");
        // Every kind of word comes to stand at the cut, by a front atom that grows.
        String rest = " 4611686018427387903 (b . ((c) . d)) 'e ''(f . 12) nil . ghijklmnopq)";
        for (int less = 0; less <= rest.length(); less++) {
            String front = listOf(2000 - less).replace(")", "").replaceAll(" +$", "x");
            String text = front + rest;
            String whole = text.replace(". ((c) . d)", "(c) . d");
            Run run = Run.with(text);
            run.isTold(0, whole.substring(0, Math.min(2000, whole.length())));
        }
    }

    private static void deepObjectsAreTold() {
        Checks.sentence("Promise 6 (Terms)",
            "OUT has at most 2000 characters; what would come behind is left out.");
        Run lists = new Run();
        for (int k = 0; k < 200; k++) {
            lists.cons(0, 1, 0, true);
        }
        lists.isTold(0, "(".repeat(200) + "nil" + ")".repeat(200));
        Run quotes = Run.with("'".repeat(40) + "a", "quote");
        for (int k = 0; k < 110; k++) {
            quotes.cons(0, 2, 3, true);
            quotes.cons(1, 3, 0, true);
        }
        quotes.isTold(0, "'".repeat(150) + "a");
        // 2^11 and more atoms out of few pairs: the text ends long before they do.
        Run twins = Run.with("a");
        for (int k = 0; k < 30; k++) {
            twins.cons(0, 0, 0, true);
        }
        twins.tell(0, 2000);
        twins.letter(0, '(');
        twins.letter(29, '(');
        twins.letter(30, 'a');
        twins.letter(31, ' ');
        twins.letter(32, '.');
        twins.letter(35, ')');
        twins.letter(2000, NONE);
        twins.tell(1, 3);
    }

    private static void everyPlaceIsTold() {
        Checks.sentence("Promise 6",
            "OUT becomes what the object in PLACE p is TOLD as: how many characters.");
        Run run = new Run();
        for (int p = 0; p < 8; p++) {
            run.read(p, "a" + "b".repeat(p), 0);
        }
        for (int p = 0; p < 8; p++) {
            run.tell(p, p + 1);
            run.isTold(p, "a" + "b".repeat(p));
        }
        run.isTold(7, "abbbbbbb");
    }

    private static void outStaysWithoutAPlace() {
        Checks.sentence("Promise 6", "NONE, and OUT stays, when there is no such PLACE.");
        Run run = Run.with("(a b)");
        for (int p : Run.NO_PLACES) {
            run.tell(p, NONE);
        }
        run.hasOut("");
        run.tell(0, 5);
        for (int p : Run.NO_PLACES) {
            run.tell(p, NONE);
            run.hasOut("(a b)");
        }
    }

    private static void outBecomesTheNextText() {
        Checks.sentence("Promise 6",
            "OUT becomes what the object in PLACE p is TOLD as: how many characters.");
        Run run = Run.with("(a b)", "7");
        run.isTold(0, "(a b)");
        run.isTold(1, "7");
        run.isTold(2, "nil");
        run.isTold(0, "(a b)");
        // OUT is a text by itself: what comes to the PLACE later does not change it.
        run.set(0, 5, true);
        run.cons(1, 1, 1, true);
        run.below(0, 1, false);
        run.read(0, "(a", 3);
        run.read(0, "c", 0);
        run.hasOut("(a b)");
        run.isTold(0, "c");
    }

    private static void lettersHaveTheirEdges() {
        Checks.sentence("Promise 7", "Character k of OUT; NONE when there is none.");
        int[] never = {-1, -2, 2000, 2001, 3000, 1 << 16, Integer.MAX_VALUE, Integer.MIN_VALUE};
        Run run = Run.with("(ab . 12)", "x");
        run.tell(0, 9);
        run.letter(0, '(');
        run.letter(1, 'a');
        run.letter(3, ' ');
        run.letter(7, '2');
        run.letter(8, ')');
        run.letter(9, NONE);
        run.letter(10, NONE);
        run.letter(1999, NONE);
        for (int k : never) {
            run.letter(k, NONE);
        }
        run.tell(1, 1);
        run.letter(0, 'x');
        // Behind the shorter text nothing of the longer one is left.
        for (int k = 1; k < 10; k++) {
            run.letter(k, NONE);
        }
        Run full = new Run();
        for (int k = 0; k < 12; k++) {
            full.cons(0, 0, 0, true);
        }
        full.tell(0, 2000);
        full.letter(0, '(');
        for (int k : never) {
            full.letter(k, NONE);
        }
        full.tell(1, 3);
        full.letter(2, 'l');
        full.letter(3, NONE);
        full.letter(1999, NONE);
    }
}
