/** Promise 4, what the Terms say of OBJECTS, TEXTS, BLANKS, WORDS and READING. */
public final class WordsTest {
    private static final int NONE = Run.NONE;
    private static final String LETTERS = "abcdefghijklmnopqrstuvwxyz";
    private static final String DIGITS = "0123456789";
    private static final String OTHERS = "+-*/<>=?!_";
    private static final String MOST = "4611686018427387903";

    public static void main(String[] args) {
        objectsAreOfThreeKinds();
        listsEndWithNil();
        textsHaveAllTheirCharacters();
        blanksAre32And10();
        remarksGoToTheLinesEnd();
        remarksGoToTheTextsEnd();
        wordsAreAsLongAsCanBe();
        signsAreOneCharacterEach();
        atomsHaveTheirCharacters();
        digitsAloneAreANatural();
        symbolsHaveAtMost11();
        symbolsDifferByEachCharacter();
        objectsAreToldByTheirForms();
        blanksStandBetweenAnyTwoWords();
        textIsOneObject();
        Checks.finish();
    }

    private static void isOfKind(String text, int kind) {
        Run run = Run.with(text);
        run.about(0, 0, kind);
    }

    private static void objectsAreOfThreeKinds() {
        Checks.sentence("Promise 4 (Terms)", "An OBJECT is a NATURAL (0 .. 2^62 - 1), a SYMBOL,"
            + " or a PAIR of two objects; nil and t are symbols.");
        for (String natural : new String[] {"0", "1", "9", "10", "4611686018427387902", MOST}) {
            isOfKind(natural, 0);
            Run run = Run.with(natural);
            run.number(0, Long.parseLong(natural));
            run.isTold(0, natural);
        }
        Run.fails("4611686018427387904", 2, 0);
        for (String symbol : new String[] {"a", "nil", "t", "()", "-1", "1-", "+", "quote"}) {
            isOfKind(symbol, 1);
            Run.with(symbol).number(0, NONE);
        }
        for (String pair : new String[] {"(a)", "(a . b)", "'a", "(nil . nil)", "(())"}) {
            isOfKind(pair, 2);
            Run.with(pair).number(0, NONE);
        }
        Run.reads("nil", "nil");
        Run.reads("t", "t");
        Run.with("nil", "()", "t").same(0, 1, true);
        Run.with("nil", "t").same(0, 1, false);
    }

    private static void listsEndWithNil() {
        Checks.sentence("Promises 4 and 12 (Terms)",
            "A LIST is nil, or a pair whose second one is a list.");
        Run.with("nil").about(0, 2, 0);
        Run.with("()").about(0, 2, 0);
        Run.with("(nil)").about(0, 2, 1);
        Run.with("(a . nil)").about(0, 2, 1);
        Run.with("(a . (b . (c . ())))").about(0, 2, 3);
        Run.with("((a . b))").about(0, 2, 1);
        Run.with("(t . t)").about(0, 2, NONE);
        Run.with("(() . t)").about(0, 2, NONE);
        Run.with("((a) . b)").about(0, 2, NONE);
        Run.with("(a b . 0)").about(0, 2, NONE);
        Run.with("t").about(0, 2, NONE);
        Run.with("0").about(0, 2, NONE);
    }

    private static void textsHaveAllTheirCharacters() {
        Checks.sentence("Promise 4 (Terms)",
            "A TEXT has at most 3000 characters, 32 .. 126 or 10.");
        StringBuilder all = new StringBuilder("a ;");
        for (char sign = 32; sign <= 126; sign++) {
            all.append(sign);
        }
        Run.reads(all.toString(), "a");
        Run.reads(all + "\n", "a");
        Run.reads(all.substring(2) + "\n a", "a");
    }

    private static void blanksAre32And10() {
        Checks.sentence("Promise 4 (Terms)", "BLANKS are 32, 10,");
        Run.reads(" a", "a");
        Run.reads("a ", "a");
        Run.reads("\na", "a");
        Run.reads("a\n", "a");
        Run.reads(" \n \n\n  a\n\n \n  ", "a");
        Run.reads("(a\nb c)", "(a b c)");
        for (char other = 0; other < 256; other++) {
            boolean isSpace = other <= 32 || other == 127 || other == 133 || other == 160;
            if (isSpace && other != 32 && other != 10) {
                Run.fails("a" + other, 1, 1);
                Run.fails(other + "a", 1, 0);
            }
        }
    }

    private static void remarksGoToTheLinesEnd() {
        Checks.sentence("Promise 4 (Terms)", "and a ; with all up to the line's end");
        Run.reads(";\na", "a");
        Run.reads("; b\na", "a");
        Run.reads(";b\n;c\na", "a");
        Run.reads("a;b\n", "a");
        Run.reads("(a;b\nc)", "(a c)");
        Run.reads("(a;)\nb)", "(a b)");
        Run.reads("(a ; ; (\n b)", "(a b)");
        Run.reads("';x\na", "'a");
        Run.reads("(a;\n.;\nb;\n)", "(a . b)");
        // The line's end ends it, and nothing else does.
        Run.fails(";a\nb c", 3, 5);
        Run.fails("a;b\nc", 3, 4);
        Run.fails("a;\n;\n)", 3, 5);
        for (char sign = 0; sign < 256; sign++) {
            if (sign != '\n') {
                Run.reads("(a;" + sign + "#)\nb)", "(a b)");
            }
        }
    }

    private static void remarksGoToTheTextsEnd() {
        Checks.sentence("Promise 4 (Terms)", "(or the text's).");
        Run.reads("a;", "a");
        Run.reads("a;b", "a");
        Run.reads("a ; (", "a");
        Run.reads("a\n;", "a");
        Run.reads("(a);)))", "(a)");
        Run.fails(";", 3, 1);
        Run.fails(";a", 3, 2);
        Run.fails("(a;)", 3, 4);
        Run.fails("(a;\n", 3, 4);
        Run.reads("a;" + "x".repeat(2998), "a");
        Run.fails(";" + "x".repeat(2999), 3, 3000);
    }

    private static void wordsAreAsLongAsCanBe() {
        Checks.sentence("Promise 4 (Terms)", "WORDS, each as long as can be:");
        Run.with("ab").about(0, 0, 1);
        Run.with("(ab)").about(0, 2, 1);
        Run.with("(12)").about(0, 2, 1);
        Run.with("(1a)").about(0, 2, 1);
        Run.with("(a1)").about(0, 2, 1);
        Run.with("(1+1)").about(0, 2, 1);
        Run.with("(-1)").about(0, 2, 1);
        Run.with("(12ab34)").about(0, 2, 1);
        Run.with("(1 2)").about(0, 2, 2);
        Run.with("(a b)").about(0, 2, 2);
        Run.reads("(12ab 34)", "(12ab 34)");
        Run.fails("12ab34cd56ef", 2, 0);
    }

    private static void signsAreOneCharacterEach() {
        Checks.sentence("Promise 4 (Terms)", "( ) ' . (one character each),");
        Run.reads("(())", "(nil)");
        Run.reads("(()())", "(nil nil)");
        Run.reads("((a)(b))", "((a) (b))");
        Run.reads("''a", "''a");
        Run.reads("(a.b)", "(a . b)");
        Run.reads("(a .b)", "(a . b)");
        Run.reads("(a. b)", "(a . b)");
        Run.reads("(1.2)", "(1 . 2)");
        Run.reads("(a'b)", "(a 'b)");
        Run.reads("(a''b'c)", "(a ''b 'c)");
        Run.reads("(a(b)c)", "(a (b) c)");
        Run.reads("(a.(b))", "(a b)");
        Run.reads("((a).b)", "((a) . b)");
        Run.reads("(a.'b)", "(a quote b)");
        Run.fails("(a..b)", 3, 3);
        Run.fails("(a...b)", 3, 3);
        Run.fails("1.5", 3, 1);
        Run.fails("a'b", 3, 1);
    }

    private static void atomsHaveTheirCharacters() {
        Checks.sentence("Promise 4 (Terms)",
            "and ATOMS, of letters a .. z, digits and + - * / < > = ? ! _ :");
        for (char sign : (LETTERS + DIGITS + OTHERS).toCharArray()) {
            Run run = Run.with(sign + "", "x" + sign, sign + "x", "x" + sign + "y");
            run.isTold(0, sign + "");
            run.isTold(1, "x" + sign);
            run.isTold(2, sign + "x");
            run.isTold(3, "x" + sign + "y");
            Run.reads("(" + sign + ")", "(" + sign + ")");
        }
        // Those next to the ranges' ends, and the : behind the row.
        for (char sign : "`{@A/0:Z[^\"#$%&,|}~\\]".toCharArray()) {
            if ((LETTERS + DIGITS + OTHERS).indexOf(sign) < 0) {
                Run.fails("x" + sign, 1, 1);
                Run.fails("" + sign, 1, 0);
            }
        }
    }

    private static void digitsAloneAreANatural() {
        Checks.sentence("Promise 4 (Terms)",
            "one of digits alone is a NATURAL, another one a SYMBOL");
        for (char digit : DIGITS.toCharArray()) {
            isOfKind(digit + "", 0);
            isOfKind("00" + digit, 0);
            Run.with("1" + digit).number(0, 10 + digit - '0');
        }
        for (char sign : (LETTERS + OTHERS).toCharArray()) {
            isOfKind(sign + "", 1);
            isOfKind(sign + "1", 1);
            isOfKind("1" + sign, 1);
            isOfKind("1" + sign + "1", 1);
            isOfKind("1234567890" + sign, 1);
        }
        Run.reads("00x", "00x");
        Run.reads("007", "7");
        Run.with("7", "007", "x7").same(0, 1, true);
        // A NATURAL may be longer than eleven.
        Run.reads("123456789012", "123456789012");
    }

    private static void symbolsHaveAtMost11() {
        Checks.sentence("Promise 4 (Terms)", "a SYMBOL of at most 11 characters.");
        for (char sign : (LETTERS + OTHERS).toCharArray()) {
            String one = String.valueOf(sign);
            Run run = Run.with(one, one.repeat(10), one.repeat(11));
            run.isTold(0, one);
            run.isTold(1, one.repeat(10));
            run.isTold(2, one.repeat(11));
            Run.fails(one.repeat(12), 2, 0);
        }
        Run.reads("a0000000000", "a0000000000");
        Run.reads("9999999999_", "9999999999_");
        Run.fails("99999999999_", 2, 0);
        Run.fails("_00000000000", 2, 0);
    }

    private static void symbolsDifferByEachCharacter() {
        Checks.sentence("Promise 4 (Terms)", "a SYMBOL of at most 11 characters.");
        for (String sign : new String[] {"a", "_", "z"}) {
            for (int at = 0; at < 11; at++) {
                String plain = sign.repeat(11);
                String other = plain.substring(0, at) + "b" + plain.substring(at + 1);
                Run run = Run.with(plain, other, plain, plain.substring(0, at + 1));
                run.same(0, 1, false);
                run.same(0, 2, true);
                run.same(0, 3, at == 10);
                run.isTold(1, other);
            }
        }
    }

    private static void areEqual(String left, String right) {
        Run run = Run.with(left, right);
        run.same(0, 1, true);
    }

    private static void objectsAreToldByTheirForms() {
        Checks.sentence("Promise 4 (Terms)", "An object is told by an ATOM;");
        Run.reads("abc", "abc");
        Run.reads("12", "12");
        Checks.sentence("Promise 4 (Terms)", "' and an object X: the list (quote X);");
        areEqual("'a", "(quote a)");
        areEqual("''a", "(quote (quote a))");
        areEqual("'(a . b)", "(quote (a . b))");
        areEqual("'()", "(quote nil)");
        areEqual("('a 'b)", "((quote a) (quote b))");
        areEqual("(a . 'b)", "(a quote b)");
        Checks.sentence("Promise 4 (Terms)", "( and objects, perhaps none, and ) : their list;");
        areEqual("()", "nil");
        areEqual("(())", "(nil . nil)");
        areEqual("(a)", "(a . nil)");
        areEqual("(a b c)", "(a . (b . (c . nil)))");
        areEqual("((a) ((b)))", "((a . nil) . (((b . nil) . nil) . nil))");
        Checks.sentence("Promise 4 (Terms)", "( and objects, at least one, . one object and ) :"
            + " pairs, with that one instead of nil at the end.");
        Run.reads("(a . b)", "(a . b)");
        Run.reads("(a b . c)", "(a b . c)");
        Run.reads("((a) . (b . c))", "((a) b . c)");
        areEqual("(a b . (c))", "(a b c)");
        areEqual("(a . ())", "(a)");
        areEqual("(a b c . d)", "(a . (b . (c . d)))");
        Run.fails("(. a)", 3, 1);
        Run.fails("(.)", 3, 1);
        Run.fails("(a .)", 3, 4);
        Run.fails("(a . b c)", 3, 7);
    }

    private static void blanksStandBetweenAnyTwoWords() {
        Checks.sentence("Promise 4 (Terms)", "BLANKS may stand between any two words.");
        String[] words = {"(", "'", "a", "(", ")", "12", "(", "b", ".", "c", ")", ".", "d", ")"};
        String told = "('a nil 12 (b . c) . d)";
        for (String blanks : new String[] {" ", "\n", ";x\n", "  \n ;( \n\n"}) {
            for (int wide = 0; wide < words.length; wide++) {
                StringBuilder text = new StringBuilder();
                for (int k = 0; k < words.length; k++) {
                    text.append(k == wide ? blanks : "").append(words[k]);
                }
                Run.reads(text.toString(), told);
            }
            Run.reads(String.join(blanks, words), told);
        }
        Run.reads(String.join("", words), told);
    }

    private static void textIsOneObject() {
        Checks.sentence("Promise 4 (Terms)",
            "READING: the text must be one object, BLANKS ahead and behind.");
        Run.reads("a", "a");
        Run.reads(" ;x\n\na\n\n;y", "a");
        Run.reads(" (a) ", "(a)");
        Run.reads(" ".repeat(1500) + "'a" + "\n".repeat(1498), "'a");
        Run.fails("", 3, 0);
        Run.fails(" ", 3, 1);
        Run.fails("\n", 3, 1);
        Run.fails("a a", 3, 2);
        Run.fails("a\na", 3, 2);
        Run.fails("() ()", 3, 3);
        Run.fails("'a 'b", 3, 3);
        Run.fails("(a) b", 3, 4);
    }
}
