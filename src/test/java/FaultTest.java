import java.math.BigInteger;

/** Promises 4 and 5, what the Terms say of FAULTS. */
public final class FaultTest {
    private static final String OF_ATOMS = "abcdefghijklmnopqrstuvwxyz0123456789+-*/<>=?!_";
    private static final BigInteger MOST = BigInteger.ONE.shiftLeft(62).subtract(BigInteger.ONE);

    public static void main(String[] args) {
        strangeCharacters();
        tooLongSymbols();
        tooGreatNaturals();
        wordsThatCantStand();
        theEndThatCantStand();
        fortyOpenAreFine();
        theFortyFirstIsTooDeep();
        whatHasEndedIsNotOpen();
        thousandWordsAreFine();
        theNextWordIsTooMany();
        theFirstFromTheLeft();
        theWordsPlace();
        theEndsPlace();
        theLeastAtOnePlace();
        Checks.finish();
    }

    private static void fails(String text, int fault, int place) {
        Run.fails(text, fault, place);
    }

    private static void strangeCharacters() {
        Checks.sentence("Promise 4 (Terms)",
            "1 a character with which no word begins (also 32 .. 126 that are none of those above);");
        int strange = 0;
        for (char sign = 0; sign < 256; sign++) {
            if (OF_ATOMS.indexOf(sign) < 0 && "()'. \n;".indexOf(sign) < 0) {
                strange++;
                fails("" + sign, 1, 0);
                fails("  " + sign, 1, 2);
                fails("ab" + sign, 1, 2);
                fails("(a " + sign + ")", 1, 3);
                fails("'" + sign, 1, 1);
                fails("(a ." + sign, 1, 4);
                fails("(a . b" + sign, 1, 6);
                fails("a " + sign, 1, 2);
                fails(";\n" + sign, 1, 2);
                fails("12" + sign + "34", 1, 2);
            }
        }
        Checks.due("strange characters", strange, 256 - 46 - 7);
    }

    private static void tooLongSymbols() {
        Checks.sentence("Promise 4 (Terms)", "2 a SYMBOL of more than 11,");
        for (char sign : OF_ATOMS.toCharArray()) {
            if (sign < '0' || sign > '9') {
                Run.reads("1234567890" + sign, "1234567890" + sign);
                fails("12345678901" + sign, 2, 0);
                fails(sign + "12345678901", 2, 0);
                fails("123456" + sign + "78901", 2, 0);
            }
        }
        for (int length = 12; length <= 60; length++) {
            fails("a".repeat(length), 2, 0);
            fails("(b " + "z".repeat(length) + ")", 2, 3);
        }
        fails("a".repeat(2999), 2, 0);
        fails("a".repeat(3000), 2, 0);
        fails("0".repeat(2999) + "a", 2, 0);
        Run.reads("(" + "abcdefghijk ".repeat(3) + ")", "(abcdefghijk abcdefghijk abcdefghijk)");
    }

    private static void tooGreatNaturals() {
        Checks.sentence("Promise 4 (Terms)", "a NATURAL above 2^62 - 1;");
        for (int less = 0; less <= 20; less++) {
            String fine = MOST.subtract(BigInteger.valueOf(less)).toString();
            Run.reads(fine, fine);
            Run.reads("000" + fine, fine);
            String above = MOST.add(BigInteger.valueOf(1 + less)).toString();
            fails(above, 2, 0);
            fails("(a 000" + above + ")", 2, 3);
        }
        // What would wrap around to a small number, for each power of 2 and of 10 above.
        for (int power = 62; power <= 140; power++) {
            for (int more = 0; more <= 7; more++) {
                BigInteger great = BigInteger.ONE.shiftLeft(power).add(BigInteger.valueOf(more));
                fails(great.toString(), 2, 0);
                fails(great.multiply(BigInteger.valueOf(3)).toString(), 2, 0);
            }
        }
        for (int digits = 19; digits <= 60; digits++) {
            fails("9".repeat(digits), 2, 0);
            fails("5" + "0".repeat(digits - 1), 2, 0);
        }
        Run.reads("9".repeat(18), "9".repeat(18));
        Run.reads("1" + "0".repeat(18), "1" + "0".repeat(18));
        Run.reads("0".repeat(2981) + MOST, MOST.toString());
        fails("0".repeat(2981) + MOST.add(BigInteger.ONE), 2, 0);
        fails("9".repeat(3000), 2, 0);
    }

    private static void wordsThatCantStand() {
        Checks.sentence("Promise 4 (Terms)", "3 a word, or the end, that can't stand there;");
        fails(")", 3, 0);
        fails(".", 3, 0);
        for (String word : new String[] {"b", "1", "(", "'", ")", "."}) {
            // Behind the text's object, behind the one that follows a dot.
            fails("a " + word, 3, 2);
            fails("1 " + word, 3, 2);
            fails("() " + word, 3, 3);
            fails("(a) " + word, 3, 4);
            fails("'a " + word, 3, 3);
            fails("'(a) " + word, 3, 5);
            if (!word.equals(")")) {
                fails("(a . b " + word, 3, 7);
                fails("(a . 'b " + word, 3, 8);
                fails("(a . () " + word, 3, 8);
                fails("(a . (b) " + word, 3, 9);
                fails("((a . b " + word, 3, 8);
            }
        }
        // Where an object has to come.
        for (String word : new String[] {")", "."}) {
            fails("'" + word, 3, 1);
            fails("''" + word, 3, 2);
            fails("('" + word, 3, 2);
            fails("(a '" + word, 3, 4);
            fails("(a . " + word, 3, 5);
            fails("(a . '" + word, 3, 6);
        }
        fails("(.", 3, 1);
        fails("((a).(.", 3, 6);
        fails("('a)) ", 3, 4);
    }

    private static void theEndThatCantStand() {
        Checks.sentence("Promise 4 (Terms)", "3 a word, or the end, that can't stand there;");
        for (String text : new String[] {"", " ", "\n", ";", ";a", "(", "'", "''", "(a", "(a ", "(a .",
            "(a . b", "(a . b ", "(a . (b)", "(a . 'b", "((a)", "(a '", "('a ", "(()", "'(a", "(a;)"}) {
            fails(text, 3, text.length());
        }
    }

    /** So many that are open at once, ( and ' by turns from the first one on. */
    private static String mixed(int open, String first, String second) {
        return (first + second).repeat(open).substring(0, open);
    }

    private static void fortyOpenAreFine() {
        Checks.sentence("Promise 4 (Terms)", "4 a ( or ' that is in 40 of these that are open");
        for (int open = 38; open <= 40; open++) {
            String lists = "(".repeat(open) + ")".repeat(open);
            Run.reads(lists, "(".repeat(open - 1) + "nil" + ")".repeat(open - 1));
            String filled = "(".repeat(open) + "a . b" + ")".repeat(open);
            Run.reads(filled, filled);
            Run.reads("'".repeat(open) + "a", "'".repeat(open) + "a");
            for (String front : new String[] {mixed(open, "(", "'"), mixed(open, "'", "(")}) {
                String text = front + "7" + front.replace("'", "").replace('(', ')');
                Run.reads(text, text);
            }
            String right = "(a . ".repeat(open - 1) + "(b)" + ")".repeat(open - 1);
            Run.reads(right, "(" + "a ".repeat(open - 1) + "b)");
        }
    }

    private static void theFortyFirstIsTooDeep() {
        Checks.sentence("Promise 4 (Terms)", "4 a ( or ' that is in 40 of these that are open");
        String[] fronts = {"(".repeat(40), "'".repeat(40), mixed(40, "(", "'"), mixed(40, "'", "("),
            "(".repeat(20) + "'".repeat(20), "'".repeat(20) + "(".repeat(20)};
        for (String front : fronts) {
            for (String word : new String[] {"(", "'"}) {
                fails(front + word, 4, 40);
                fails(front + word + "a", 4, 40);
                fails(" " + front + " " + word, 4, 42);
                fails(front + word + front, 4, 40);
            }
        }
        fails("(".repeat(41) + ")".repeat(41), 4, 40);
        fails("'".repeat(41) + "a", 4, 40);
        fails("(a . ".repeat(40) + "(", 4, 200);
        fails("(a ".repeat(40) + "b 'c", 4, 122);
        fails("(".repeat(3000), 4, 40);
    }

    private static void whatHasEndedIsNotOpen() {
        Checks.sentence("Promise 4 (Terms)", "(a ' until its object has ended);");
        String often = "'a '1 '(b) ''c ".repeat(15) + "nil";
        Run.reads("(" + often + ")", "(" + often + ")");
        String deep = "'".repeat(39) + "a";
        Run.reads("(" + deep + " " + deep + ")", "(" + deep + " " + deep + ")");
        fails("(" + deep + " '" + deep + ")", 4, 81);
        fails("(" + deep + " " + "(".repeat(40), 4, 81);
        // The ' stays open as long as its list does, and so counts there.
        String list = "'" + "(".repeat(39);
        Run.reads(list + "a" + ")".repeat(39), list + "a" + ")".repeat(39));
        fails(list + "a '", 4, 42);
        fails(list + "a (", 4, 42);
        // When the list has ended, both it and its ' are no longer open.
        String inner = "(".repeat(38) + "'(a) '(b) c" + ")".repeat(38);
        Run.reads(inner, inner);
        fails("(".repeat(39) + "'(a)", 4, 40);
        fails("(".repeat(39) + "(a) (b) '(", 4, 48);
        String wide = "(".repeat(39) + "a" + ")".repeat(39);
        Run.reads("(" + wide + " " + wide + " 'b)", "(" + wide + " " + wide + " 'b)");
        // All of them end with one object.
        String quotes = "(" + "'".repeat(39) + "a" + "(".repeat(39) + "b" + ")".repeat(40);
        Run.reads(quotes, "(" + "'".repeat(39) + "a " + "(".repeat(39) + "b" + ")".repeat(40));
    }

    private static void thousandWordsAreFine() {
        Checks.sentence("Promise 4 (Terms)", "5 the 1001st word.");
        for (int words = 998; words <= 1000; words++) {
            int atoms = words - 2;
            Run.reads("(" + "a ".repeat(atoms) + ")", "(" + "a ".repeat(atoms - 1) + "a)");
            Run.reads("(" + "a ".repeat(atoms) + ");x\n  ", "(" + "a ".repeat(atoms - 1) + "a)");
        }
        // Each ( ) ' and . is a word too.
        Run.reads("(" + "(a)".repeat(332) + "'a)", "(" + "(a) ".repeat(332) + "'a)");
        Run.reads("(a b" + "'c".repeat(497) + ".d)", "(a b " + "'c ".repeat(497) + ". d)");
        Run.reads("(" + "()".repeat(499) + ")", "(" + "nil ".repeat(498) + "nil)");
    }

    private static void theNextWordIsTooMany() {
        Checks.sentence("Promise 4 (Terms)", "5 the 1001st word.");
        String thousand = "(" + "a ".repeat(999);
        for (String word : new String[] {"a", "1", "(", "'", ")", "."}) {
            fails(thousand + word, 5, 1999);
            fails(thousand + " ;b\n" + word, 5, 2003);
            fails(thousand + word + " # abcdefghijkl", 5, 1999);
        }
        // The 1000th word is fine: the end behind it isn't.
        fails(thousand, 3, 1999);
        fails(thousand + "  ", 3, 2001);
        fails("(" + "()".repeat(499) + "()", 5, 1000);
        fails("(" + "(a)".repeat(333) + ")", 5, 1000);
        fails("(a" + "'b".repeat(498) + ".c)", 5, 1000);
        fails("(" + "()".repeat(500) + ")", 5, 1000);
    }

    private static void theFirstFromTheLeft() {
        Checks.sentence("Promise 4 (Terms)", "FAULTS, the first from the left,");
        String deep = "(".repeat(41);
        String many = "(" + "a ".repeat(1000);
        // Each FAULT ahead of each other one.
        fails("# #", 1, 0);
        fails("# abcdefghijkl", 1, 0);
        fails("# ) ", 1, 0);
        fails("#" + deep, 1, 0);
        fails("#" + many, 1, 0);
        fails("abcdefghijkl #", 2, 0);
        fails("abcdefghijkl abcdefghijkl", 2, 0);
        fails("4611686018427387904 )", 2, 0);
        fails("(abcdefghijkl " + deep, 2, 1);
        fails("(4611686018427387904 " + many, 2, 1);
        fails(") #", 3, 0);
        fails(") abcdefghijkl", 3, 0);
        fails("(. .)", 3, 1);
        fails("a " + deep, 3, 2);
        fails("a " + many, 3, 2);
        fails(deep + " #", 4, 40);
        fails(deep + " abcdefghijkl", 4, 40);
        fails(deep + " . )", 4, 40);
        fails(deep + "((('", 4, 40);
        fails(deep + many, 4, 40);
        fails(many + " #", 5, 1999);
        fails(many + " abcdefghijkl", 5, 1999);
        fails(many + " . )", 5, 1999);
        fails(many + deep, 5, 1999);
        fails(many + many.substring(0, 990), 5, 1999);
        // An end that can't stand is behind every word.
        fails("(a #", 1, 3);
        fails("('a abcdefghijkl", 2, 4);
    }

    private static void theWordsPlace() {
        Checks.sentence("Promise 5 (Terms)", "with the place where its word begins");
        for (int place = 0; place <= 30; place++) {
            fails(" ".repeat(place) + "#", 1, place);
            fails("\n".repeat(place) + "abcdefghijklmno", 2, place);
            fails(" ".repeat(place) + "0004611686018427387904", 2, place);
            fails(" ".repeat(place) + ")", 3, place);
            fails("x" + " ".repeat(place) + " abc", 3, place + 2);
            fails("(".repeat(40) + " ".repeat(place) + "'", 4, place + 40);
            fails("(" + "a ".repeat(999) + " ".repeat(place) + "abc", 5, place + 1999);
        }
        fails(" ".repeat(2988) + "abcdefghijkl", 2, 2988);
        fails(" ".repeat(2999) + ")", 3, 2999);
        fails("(" + "a ".repeat(999) + " ".repeat(1000) + "b", 5, 2999);
    }

    private static void theEndsPlace() {
        Checks.sentence("Promise 5 (Terms)", "(the text's length for its end):");
        for (int place = 0; place <= 30; place++) {
            fails(" ".repeat(place), 3, place);
            fails("(" + " ".repeat(place), 3, place + 1);
            fails("'" + ";".repeat(place), 3, place + 1);
            fails("(abc" + "\n".repeat(place), 3, place + 4);
        }
        fails("(" + "a ".repeat(999) + " ".repeat(1001), 3, 3000);
        fails(" ".repeat(3000), 3, 3000);
        fails(" ".repeat(2999) + "'", 3, 3000);
    }

    private static void theLeastAtOnePlace() {
        Checks.sentence("Promise 4 (Terms)", "At one place the least number.");
        String thousand = "(" + "a ".repeat(999);
        String ended = "(" + "a ".repeat(998) + ")";
        String deep = "(" + "()".repeat(480) + "(".repeat(39);
        // 1 before 3, 5.
        fails("a #", 1, 2);
        fails("(a . b #", 1, 7);
        fails("(a . #", 1, 5);
        fails(thousand + "#", 1, 1999);
        fails(ended + "#", 1, 1998);
        // 2 before 3, 5.
        fails("a abcdefghijkl", 2, 2);
        fails("a 4611686018427387904", 2, 2);
        fails("(a . b abcdefghijkl)", 2, 7);
        fails(thousand + "abcdefghijkl", 2, 1999);
        fails(thousand + "4611686018427387904", 2, 1999);
        fails(ended + "abcdefghijkl", 2, 1998);
        // 3 before 4, 5.
        fails("(".repeat(40) + "a . b (", 3, 46);
        fails("(".repeat(40) + "a . b '", 3, 46);
        fails(ended + "a", 3, 1998);
        fails(ended + "(", 3, 1998);
        fails(ended + ")", 3, 1998);
        fails(ended + ".", 3, 1998);
        fails("(" + "a ".repeat(998) + ".)", 3, 1998);
        fails("(" + "a ".repeat(996) + ". b )c", 3, 1998);
        fails("(" + "a ".repeat(997) + ". b c )", 3, 1999);
        // 4 before 5.
        Checks.due("words of the deep text", deep.length(), 1000);
        fails(deep + "(", 4, 1000);
        fails(deep + "'", 4, 1000);
        fails(deep + "a", 5, 1000);
        fails(deep + ")", 5, 1000);
    }
}
