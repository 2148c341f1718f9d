/** What the tests share: setting answers beside the due ones, by the document's sentences. */
final class Checks {
    private static int made = 0;
    private static int wrong = 0;
    private static String sentence = "";

    private Checks() {
    }

    /**
     * The next answers are due by these words of the document: of the promise itself, or of the part
     * in brackets that the promise rests on. SentencesTest looks that the words stand there.
     */
    static void sentence(String promise, String words) {
        sentence = promise + ", \"" + words + "\": ";
    }

    static void due(String call, long got, long want) {
        made++;
        if (got != want) {
            wrong++;
            System.out.println(sentence + call + " answered " + got + ", due is " + want);
        }
    }

    static void due(String call, boolean got, boolean want) {
        due(call, got ? 1L : 0L, want ? 1L : 0L);
    }

    static void due(String call, String got, String want) {
        made++;
        if (!got.equals(want)) {
            wrong++;
            System.out.println(sentence + call + " answered [" + got + "], due is [" + want + "]");
        }
    }

    /** Lets up to twenty characters, each one byte, wait; the others are 0. */
    static void feed(ObjectTexts x, String twenty) {
        int[] words = new int[5];
        for (int k = 0; k < twenty.length(); k++) {
            words[k / 4] |= (twenty.charAt(k) & 255) << (24 - 8 * (k % 4));
        }
        x.feed(words[0], words[1], words[2], words[3], words[4]);
    }

    static void finish() {
        System.out.println(made + " answers, " + wrong + " not as due");
        if (wrong != 0) {
            System.exit(1);
        }
    }
}
