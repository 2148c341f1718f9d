/** What the tests share: comparing answers, and giving and getting whole texts. */
final class Checks {
    private static int made = 0;
    private static int wrong = 0;

    private Checks() {
    }

    static void due(String call, long got, long want) {
        made++;
        if (got != want) {
            wrong++;
            System.out.println(call + " answered " + got + ", due is " + want);
        }
    }

    static void due(String call, boolean got, boolean want) {
        due(call, got ? 1L : 0L, want ? 1L : 0L);
    }

    static void due(String call, String got, String want) {
        made++;
        if (!got.equals(want)) {
            wrong++;
            System.out.println(call + " answered [" + got + "], due is [" + want + "]");
        }
    }

    /** Lets up to twenty characters, each one byte, wait. */
    static void feed(ObjectTexts x, String twenty) {
        int[] words = new int[5];
        for (int k = 0; k < twenty.length(); k++) {
            words[k / 4] |= (twenty.charAt(k) & 255) << (24 - 8 * (k % 4));
        }
        x.feed(words[0], words[1], words[2], words[3], words[4]);
    }

    /** Brings the characters behind the TEXT. */
    static void write(ObjectTexts x, String text) {
        for (int from = 0; from < text.length(); from += 20) {
            String part = text.substring(from, Math.min(from + 20, text.length()));
            feed(x, part);
            if (x.end(part.length()) == ObjectTexts.NONE) {
                due("end(" + part.length() + ") of a test's text", 0, 1);
            }
        }
    }

    static int read(ObjectTexts x, int p, String text) {
        write(x, text);
        return x.read(p);
    }

    /** A new object with what the texts tell in its first PLACES. */
    static ObjectTexts with(String... texts) {
        ObjectTexts x = new ObjectTexts();
        for (int p = 0; p < texts.length; p++) {
            due("read(" + p + ") of [" + texts[p] + "]", read(x, p, texts[p]), 0);
        }
        return x;
    }

    /** A long OUT takes more than 512 calls: this class counts none, and letter() changes nothing. */
    static String out(ObjectTexts x) {
        StringBuilder text = new StringBuilder();
        for (int k = 0; x.letter(k) != ObjectTexts.NONE; k++) {
            text.append((char) x.letter(k));
        }
        return text.toString();
    }

    static String told(ObjectTexts x, int p) {
        int length = x.tell(p);
        String text = out(x);
        due("tell(" + p + ") of [" + text + "]", length, text.length());
        return text;
    }

    static void finish() {
        System.out.println(made + " answers, " + wrong + " not as due");
        if (wrong != 0) {
            System.exit(1);
        }
    }
}
