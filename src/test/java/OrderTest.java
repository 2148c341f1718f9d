/** Promises 13 and 14: same, below; and that equal objects are one. */
public final class OrderTest {
    public static void main(String[] args) {
        equalOnesAreTheSame();
        oldOnesStayTheSame();
        othersAreNotTheSame();
        kindsNeverMeet();
        sameOfAllPlaces();
        sameWithoutItsPlaces();
        lowerTextsAreBelow();
        charactersHaveTheirOrder();
        endedTextsAreLowest();
        thoseThatTellTheSameAreNotBelow();
        only200CharactersCount();
        belowOfLongTexts();
        belowWithoutItsPlaces();
        Checks.finish();
    }

    private static void areEqual(String left, String right, boolean want) {
        Run run = Run.with(left, right);
        run.same(0, 1, want);
        run.same(1, 0, want);
        run.same(0, 0, true);
    }

    private static void equalOnesAreTheSame() {
        Checks.sentence("Promise 13", "Whether the objects in two PLACES are equal.");
        areEqual("a", "a", true);
        areEqual("7", "007", true);
        areEqual("0", "0000", true);
        areEqual("nil", "()", true);
        areEqual("'a", "(quote a)", true);
        areEqual("(a . (b))", "(a b)", true);
        areEqual("(a (1 . b) 'c)", "( a(01 .b)(quote c))", true);
        areEqual("abcdefghijk", "abcdefghijk", true);
        Checks.sentence("All promises (What it is)",
            "Objects of a Lisp read from texts and told as texts; equal ones are one,"
            + " pairs are put together and taken apart, looked through and put in order.");
        Run run = Run.with("(x (y . 3) . z)", "x", "((y . 3) . z)");
        run.cons(1, 2, 3, true);
        run.same(0, 3, true);
        run.side(3, 1, 4, true);
        run.same(4, 2, true);
        run.side(4, 0, 5, true);
        run.side(5, 1, 6, true);
        run.set(7, 3, true);
        run.same(6, 7, true);
        run.cons(0, 3, 1, true);
        run.about(1, 3, 4);
    }

    /** 240 symbols of three characters. */
    private static String manySymbols(int first) {
        StringBuilder text = new StringBuilder("(");
        for (int k = 0; k < 240; k++) {
            text.append((char) ('a' + first)).append((char) ('a' + k / 16)).append((char) ('a' + k % 16));
            text.append(' ');
        }
        return text.append(')').toString();
    }

    private static void oldOnesStayTheSame() {
        Checks.sentence("Promise 13", "Whether the objects in two PLACES are equal.");
        for (int salt = 0; salt < 24; salt++) {
            Run run = Run.with("(nil quote t 7 . a)");
            for (int p = 1; p <= 3; p++) {
                run.read(p, manySymbols(salt + p - 1), 0);
            }
            run.read(4, manySymbols(salt), 0);
            run.same(1, 4, true);
            run.same(2, 4, false);
            run.read(5, "nil", 0);
            run.same(5, 6, true);
            run.read(5, "(nil quote t 7 . a)", 0);
            run.same(0, 5, true);
            run.read(5, "(quote t)", 0);
            run.isTold(5, "'t");
        }
    }

    private static void othersAreNotTheSame() {
        Checks.sentence("Promise 13", "Whether the objects in two PLACES are equal.");
        areEqual("a", "b", false);
        areEqual("a", "aa", false);
        areEqual("1", "10", false);
        areEqual("4611686018427387903", "4611686018427387902", false);
        areEqual("nil", "t", false);
        areEqual("nil", "(nil)", false);
        areEqual("a", "(a)", false);
        areEqual("(a b)", "(a . b)", false);
        areEqual("(a b)", "(b a)", false);
        areEqual("(a . b)", "(b . a)", false);
        areEqual("(a b)", "(a b c)", false);
        areEqual("((a) b)", "(a (b))", false);
        areEqual("(1)", "(x)", false);
        areEqual("'a", "a", false);
        // Alike in all that is told of 200 or 2000 characters, but not equal.
        String list = "(" + "abc ".repeat(60);
        areEqual(list + "d)", list + "e)", false);
    }

    /** Naturals, symbols and pairs with small numbers inside must not be taken for one another. */
    private static void kindsNeverMeet() {
        Checks.sentence("Promise 13", "Whether the objects in two PLACES are equal.");
        Run run = Run.with("a", "b", "z", "_", "aa", "(a . a)");
        for (long n = 0; n < 60; n++) {
            run.set(7, n, true);
            for (int p = 0; p < 6; p++) {
                run.same(p, 7, false);
            }
        }
    }

    private static void sameOfAllPlaces() {
        Checks.sentence("Promise 13", "Whether the objects in two PLACES are equal.");
        Run run = Run.with("p0", "p1", "p2", "p3", "p4", "p5", "p6", "p7");
        for (int p = 0; p < 8; p++) {
            for (int q = 0; q < 8; q++) {
                run.same(p, q, p == q);
            }
        }
        run.side(0, 0, 0, false);
        run.read(7, "p0", 0);
        run.same(0, 7, true);
        run.same(7, 0, true);
    }

    private static void sameWithoutItsPlaces() {
        Checks.sentence("Promise 13", "False when there are no such PLACES.");
        Run run = new Run();
        for (int none : Run.NO_PLACES) {
            run.same(none, 0, false);
            run.same(0, none, false);
            run.same(7, none, false);
            run.same(none, none, false);
            for (int other : Run.NO_PLACES) {
                run.same(none, other, false);
            }
        }
    }

    private static void isBelow(String low, String high) {
        Run run = Run.with(low, high);
        run.below(0, 1, true);
        run.below(1, 0, false);
        run.below(0, 0, false);
        run.below(1, 1, false);
    }

    private static void lowerTextsAreBelow() {
        Checks.sentence("Promise 14", "Whether that in p, told as a text, is lower than that in q:");
        isBelow("a", "b");
        isBelow("ab", "b");
        isBelow("10", "9");
        isBelow("9", "a");
        isBelow("(z)", "0");
        isBelow("'z", "(a)");
        isBelow("(a b)", "(a)");
        isBelow("(a . z)", "(a 0)");
        isBelow("nil", "t");
        isBelow("()", "o");
        isBelow("007", "8");
        isBelow("1a", "07");
        isBelow("(quote z)", "(a)");
        isBelow("(a)", "(quote a b)");
        isBelow("100000000000", "99");
        Run run = new Run();
        for (int p = 0; p < 8; p++) {
            run.set(p, p, true);
        }
        for (int p = 0; p < 8; p++) {
            for (int q = 0; q < 8; q++) {
                run.below(p, q, p < q);
            }
        }
    }

    private static void charactersHaveTheirOrder() {
        Checks.sentence("Promise 14", "by the first of the first 200 characters that differs");
        String signs = "!*+-/0123456789<=>?_abcdefghijklmnopqrstuvwxyz";
        for (int k = 1; k < signs.length(); k++) {
            String low = signs.substring(k - 1, k);
            String high = signs.substring(k, k + 1);
            isBelow(low, high);
            isBelow("x" + low + "z", "x" + high + "a");
            isBelow("(" + low + " z)", "(" + high + " a)");
        }
        // Of what is no atom's: 32 before 39 ' and 40 ( and 41 ) and 46 dot, ! between them.
        isBelow("(a b)", "(a!)");
        isBelow("(!)", "('!)");
        isBelow("('b)", "((a))");
        isBelow("((a) b)", "((a))");
        isBelow("(a)", "(a*)");
        isBelow("(a . b)", "(a /)");
        isBelow("(a -)", "(a . b)");
    }

    private static void endedTextsAreLowest() {
        Checks.sentence("Promise 14", "(a text that has ended is lowest).");
        isBelow("a", "aa");
        isBelow("a", "a!");
        isBelow("1", "10");
        isBelow("abcdefghij", "abcdefghijk");
        isBelow("461168601842738790", "4611686018427387903");
        isBelow("'a", "'a!");
        for (int quotes = 1; quotes <= 40; quotes++) {
            isBelow("'".repeat(quotes) + "a", "'".repeat(quotes) + "ab");
        }
        // The longest texts of which one is another's beginning that fit into one object's calls.
        Run run = Run.with("'".repeat(40) + "1", "'".repeat(40) + "12", "quote");
        for (int k = 0; k < 115; k++) {
            for (int p = 0; p < 2; p++) {
                run.cons(p, 7, 3, true);
                run.cons(2, 3, p, true);
            }
        }
        run.tell(0, 156);
        run.tell(1, 157);
        run.below(0, 1, true);
        run.below(1, 0, false);
    }

    private static void thoseThatTellTheSameAreNotBelow() {
        Checks.sentence("Promise 14", "Whether that in p, told as a text, is lower than that in q:");
        for (String text : new String[] {"a", "0", "(a b)", "'x", "nil"}) {
            Run run = Run.with(text, text);
            run.below(0, 1, false);
            run.below(1, 0, false);
            run.below(0, 0, false);
        }
    }

    private static void only200CharactersCount() {
        Checks.sentence("Promise 14", "by the first of the first 200 characters that differs");
        for (int at = 190; at <= 209; at++) {
            // The texts differ in character at alone (from 0 on), so from 200 on not at all.
            String list = "(" + "ab ".repeat((at - 1) / 3) + "xyz".substring(0, (at - 1) % 3);
            Checks.due("characters ahead", list.length(), at);
            Run run = Run.with(list + "b z)", list + "c a)");
            run.below(0, 1, at < 200);
            run.below(1, 0, false);
        }
        // A difference behind the 200th does not undo, nor make, one before it.
        String front = "(" + "a ".repeat(99);
        Run run = Run.with(front + "bz)", front + "c)", front + "b)", front + "b x)", front + "b . 9)");
        run.below(0, 1, true);
        run.below(1, 0, false);
        for (int p : new int[] {0, 2, 3, 4}) {
            for (int q : new int[] {0, 2, 3, 4}) {
                run.below(p, q, false);
            }
        }
        // Texts of 199, 200 and 201 characters: their last ones.
        String shorter = "(" + "a ".repeat(98) + "b";
        Checks.due("characters ahead", shorter.length(), 198);
        Run lengths = Run.with(shorter + ")", shorter + "c)", shorter + "cd)", shorter + "ce)");
        lengths.tell(0, 199);
        lengths.tell(1, 200);
        lengths.tell(2, 201);
        lengths.below(0, 1, true);
        lengths.below(1, 0, false);
        lengths.below(1, 2, true);
        lengths.below(2, 1, false);
        lengths.below(2, 3, true);
        lengths.below(3, 2, false);
        String even = "(" + "a ".repeat(98) + "bc";
        Run longer = Run.with(even + "d)", even + "de)", even + "df)", even + "d)");
        longer.tell(0, 201);
        longer.tell(1, 202);
        for (int p = 0; p < 4; p++) {
            for (int q = 0; q < 4; q++) {
                longer.below(p, q, false);
            }
        }
    }

    private static void belowOfLongTexts() {
        Checks.sentence("Promise 14", "by the first of the first 200 characters that differs");
        Run run = Run.with("a", "b");
        for (int k = 0; k < 190; k++) {
            run.cons(0, 0, 0, true);
            run.cons(1, 1, 1, true);
        }
        // The atoms stand behind 190 (, as characters 190 of the texts.
        run.below(0, 1, true);
        run.below(1, 0, false);
        for (int k = 0; k < 10; k++) {
            run.cons(0, 0, 0, true);
            run.cons(1, 1, 1, true);
        }
        run.below(0, 1, false);
        run.below(1, 0, false);
        run.same(0, 1, false);
        // One ( more comes before every atom.
        run.cons(0, 0, 2, true);
        run.below(2, 0, false);
        run.below(0, 2, false);
    }

    private static void belowWithoutItsPlaces() {
        Checks.sentence("Promise 14", "False when there are no such PLACES.");
        Run run = Run.with("(a)", "b");
        run.below(0, 1, true);
        for (int none : Run.NO_PLACES) {
            run.below(none, 0, false);
            run.below(none, 1, false);
            run.below(0, none, false);
            run.below(1, none, false);
            run.below(none, none, false);
            for (int other : Run.NO_PLACES) {
                run.below(none, other, false);
            }
        }
    }
}
