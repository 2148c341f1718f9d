/** Promises 4 and 5: read, fault. */
public final class ReadTest {
    private static final String SIGNS = "abcdefghijklmnopqrstuvwxyz0123456789+-*/<>=?!_";

    public static void main(String[] args) {
        objectsAreRead();
        blanksAreSkipped();
        atomsHaveTheirCharacters();
        strangeCharacters();
        tooGreatAtoms();
        wordsThatCantStand();
        theEndThatCantStand();
        tooDeep();
        tooManyWords();
        theLeastAndTheFirstCount();
        placesAndTheText();
        theLatestFault();
        Checks.finish();
    }

    private static void reads(String text, String told) {
        ObjectTexts x = new ObjectTexts();
        Checks.due("read(3) of [" + text + "]", Checks.read(x, 3, text), 0);
        Checks.due("fault(0) of [" + text + "]", x.fault(0), 0);
        Checks.due("fault(1) of [" + text + "]", x.fault(1), -1);
        Checks.due("[" + text + "]", Checks.told(x, 3), told);
    }

    private static void fails(String text, int fault, int place) {
        ObjectTexts x = new ObjectTexts();
        x.set(3, 77);
        Checks.due("read(3) of [" + text + "]", Checks.read(x, 3, text), fault);
        Checks.due("fault(0) of [" + text + "]", x.fault(0), fault);
        Checks.due("fault(1) of [" + text + "]", x.fault(1), place);
        Checks.due("number(3) behind [" + text + "]", x.number(3), 77);
        Checks.due("end(0) behind [" + text + "]", x.end(0), 0);
    }

    private static void objectsAreRead() {
        reads("a", "a");
        reads("nil", "nil");
        reads("t", "t");
        reads("0", "0");
        reads("()", "nil");
        reads("( )", "nil");
        reads("(())", "(nil)");
        reads("(a)", "(a)");
        reads("(a b c)", "(a b c)");
        reads("(a . b)", "(a . b)");
        reads("(a.b)", "(a . b)");
        reads("(a b . c)", "(a b . c)");
        reads("(a . (b . (c . nil)))", "(a b c)");
        reads("(a . ())", "(a)");
        reads("(a . (b . c))", "(a b . c)");
        reads("((a . b) . (c . d))", "((a . b) c . d)");
        reads("'a", "'a");
        reads("' a", "'a");
        reads("''a", "''a");
        reads("'(a 'b)", "'(a 'b)");
        reads("('a . 'b)", "('a quote b)");
        reads("(a . 'b)", "(a quote b)");
        reads("'()", "'nil");
        reads("(a(b)c)", "(a (b) c)");
        reads("(a'b)", "(a 'b)");
        reads("(1 . 2)", "(1 . 2)");
        reads("(1.2)", "(1 . 2)");
    }

    private static void blanksAreSkipped() {
        reads("  \n x \n ", "x");
        reads("x;y", "x");
        reads(";one\n;two\n x ; three\n;four", "x");
        reads("(a ; ) \n b)", "(a b)");
        reads("(a;;'\"#\nb)", "(a b)");
        reads("'\n;of\n(;\n)", "'nil");
        reads("x;\t\u0001\u00ff\u0080", "x");
        reads("\n(\na\n.\nb\n)\n", "(a . b)");
    }

    private static void atomsHaveTheirCharacters() {
        for (int k = 0; k < SIGNS.length(); k++) {
            String sign = SIGNS.substring(k, k + 1);
            reads(sign, sign);
            reads("x" + sign + "y", "x" + sign + "y");
            reads("(" + sign + ")", "(" + sign + ")");
        }
        reads("-1", "-1");
        reads("1+", "1+");
        reads("+", "+");
        reads("00", "0");
        reads("007", "7");
        reads("00x", "00x");
        reads("abcdefghijk", "abcdefghijk");
        reads("12345678901", "12345678901");
        reads("___________", "___________");
        reads("4611686018427387903", "4611686018427387903");
        reads("0".repeat(500) + "4611686018427387903", "4611686018427387903");
        ObjectTexts x = Checks.with("-1", "1+", "1");
        Checks.due("about(0, 0) of -1", x.about(0, 0), 1);
        Checks.due("about(1, 0) of 1+", x.about(1, 0), 1);
        Checks.due("about(2, 0) of 1", x.about(2, 0), 0);
    }

    private static void strangeCharacters() {
        for (char sign = 0; sign < 256; sign++) {
            boolean begins = SIGNS.indexOf(sign) >= 0 || "()'. \n;".indexOf(sign) >= 0;
            if (!begins) {
                fails("(a " + sign + ")", 1, 3);
                fails("ab" + sign, 1, 2);
                fails(String.valueOf(sign), 1, 0);
            }
        }
    }

    private static void tooGreatAtoms() {
        fails("abcdefghijkl", 2, 0);
        fails("(a abcdefghijkl b)", 2, 3);
        fails("12345678901x", 2, 0);
        fails("4611686018427387904", 2, 0);
        fails("9223372036854775808", 2, 0);
        fails("18446744073709551616", 2, 0);
        fails("18446744073709551617", 2, 0);
        fails(" 004611686018427387904", 2, 1);
        fails("9".repeat(300), 2, 0);
        fails("a".repeat(300), 2, 0);
    }

    private static void wordsThatCantStand() {
        fails(")", 3, 0);
        fails(".", 3, 0);
        fails("a b", 3, 2);
        fails("a)", 3, 1);
        fails("a.", 3, 1);
        fails("a 'b", 3, 2);
        fails("a (b)", 3, 2);
        fails("(a) ()", 3, 4);
        fails("(a))", 3, 3);
        fails("(. a)", 3, 1);
        fails("(a . )", 3, 5);
        fails("(a . . b)", 3, 5);
        fails("(a . b c)", 3, 7);
        fails("(a . b . c)", 3, 7);
        fails("(a . b (c))", 3, 7);
        fails("(a . b 'c)", 3, 7);
        fails("(a . 'b c)", 3, 8);
        fails("(a . () b)", 3, 8);
        fails("(')", 3, 2);
        fails("'.", 3, 1);
        fails("'. a", 3, 1);
        fails("(a '. b)", 3, 4);
        fails("'a b", 3, 3);
        fails("'(a) b", 3, 5);
    }

    private static void theEndThatCantStand() {
        fails("", 3, 0);
        fails("   ", 3, 3);
        fails(" ; a\n", 3, 5);
        fails(";", 3, 1);
        fails("(", 3, 1);
        fails("(a", 3, 2);
        fails("(a .", 3, 4);
        fails("(a . b ", 3, 7);
        fails("'", 3, 1);
        fails("('a ;)", 3, 6);
    }

    private static void tooDeep() {
        reads("(".repeat(40) + ")".repeat(40), "(".repeat(39) + "nil" + ")".repeat(39));
        reads("'".repeat(40) + "a", "'".repeat(40) + "a");
        reads("('".repeat(20) + "a" + ")".repeat(20), "('".repeat(20) + "a" + ")".repeat(20));
        fails("(".repeat(41) + ")".repeat(41), 4, 40);
        fails("'".repeat(41) + "a", 4, 40);
        fails("(".repeat(40) + "'a", 4, 40);
        fails("'".repeat(40) + "(a)", 4, 40);
        fails("('".repeat(20) + " ()", 4, 41);
        // A ' ends with its object, and a ( with its ).
        String ended = "'a '(b) ".repeat(30);
        reads("(" + ended + ")", "(" + ended.trim() + ")");
        String deep = "'".repeat(39) + "a";
        reads("(" + deep + " " + deep + ")", "(" + deep + " " + deep + ")");
        fails("(" + deep + " '" + deep + ")", 4, 81);
        reads("(" + "(".repeat(39) + ")".repeat(39) + "'a)",
            "((" + "(".repeat(37) + "nil" + ")".repeat(37) + ") 'a)");
    }

    private static void tooManyWords() {
        String full = "(" + "a ".repeat(998) + ")";
        reads(full, "(" + "a ".repeat(997) + "a)");
        fails("(" + "a ".repeat(999) + ")", 5, 1999);
        fails("(" + "a ".repeat(1100) + ")", 5, 1999);
        fails("(" + "a ".repeat(999), 3, 1999);
        fails("(" + "a ".repeat(999) + "   ", 3, 2002);
        fails("(" + "()".repeat(499) + "a(", 5, 1000);
        fails("(" + "()".repeat(499) + "a'", 5, 1000);
        fails("(" + "()".repeat(499) + "a.", 5, 1000);
        // At the place of the 1001st word a fault of a lower number counts.
        fails(full + "a", 3, 1998);
        fails(full + "#", 1, 1998);
        fails("(" + "()".repeat(499) + "a#", 1, 1000);
        fails("(" + "()".repeat(499) + "a abcdefghijkl", 2, 1001);
        fails("(" + "()".repeat(479) + "(".repeat(39) + "aa a", 3, 1002);
        fails("(" + "()".repeat(480) + "(".repeat(39) + "(", 4, 1000);
        fails("(" + "() ".repeat(480) + "'".repeat(39) + ")", 3, 1480);
    }

    private static void theLeastAndTheFirstCount() {
        fails("a #", 1, 2);
        fails("a abcdefghijkl", 2, 2);
        fails("(a . b abcdefghijkl)", 2, 7);
        fails("(a . b #)", 1, 7);
        fails(") #", 3, 0);
        fails("abcdefghijkl #", 2, 0);
        fails("(a . b " + "(".repeat(60), 3, 7);
        fails("(".repeat(39) + "a . b ('", 3, 45);
        fails("(".repeat(40) + "a . b (", 3, 46);
        fails("(".repeat(40) + "a . b '", 3, 46);
    }

    private static void placesAndTheText() {
        ObjectTexts x = new ObjectTexts();
        Checks.write(x, "(a b)");
        for (int p : new int[] {-1, 8, 9, Integer.MAX_VALUE, Integer.MIN_VALUE}) {
            Checks.due("read(" + p + ")", x.read(p), -1);
            Checks.due("end(0): the TEXT stays", x.end(0), 5);
        }
        Checks.due("fault(0) before a read that took a TEXT", x.fault(0), 0);
        Checks.due("read(7)", x.read(7), 0);
        Checks.due("tell(7)", Checks.told(x, 7), "(a b)");
        Checks.due("end(0): the TEXT is empty", x.end(0), 0);
        for (int p = 0; p < 7; p++) {
            Checks.due("place " + p, Checks.told(x, p), "nil");
        }
        Checks.due("read(7) of no text", x.read(7), 3);
        Checks.due("fault(1)", x.fault(1), 0);
        Checks.due("place 7 stays", Checks.told(x, 7), "(a b)");
    }

    private static void theLatestFault() {
        ObjectTexts x = new ObjectTexts();
        Checks.due("read of (a", Checks.read(x, 0, "(a"), 3);
        Checks.due("read(8)", x.read(8), -1);
        Checks.due("fault(0) stays", x.fault(0), 3);
        Checks.due("fault(1) stays", x.fault(1), 2);
        for (int what : new int[] {-1, 2, 3, Integer.MAX_VALUE, Integer.MIN_VALUE}) {
            Checks.due("fault(" + what + ")", x.fault(what), -1);
        }
        Checks.due("read of #", Checks.read(x, 0, " #"), 1);
        Checks.due("fault(0)", x.fault(0), 1);
        Checks.due("fault(1)", x.fault(1), 1);
        Checks.due("read of a", Checks.read(x, 0, "a"), 0);
        Checks.due("fault(0)", x.fault(0), 0);
        Checks.due("fault(1)", x.fault(1), -1);
    }
}
