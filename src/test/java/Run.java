/**
 * A new object whose calls are counted, each with its due answer as the last argument: behind the
 * 512th call the document leaves every answer free, so no test may look at one.
 */
final class Run {
    static final int NONE = ObjectTexts.NONE;
    static final int MOST_CALLS = 512;
    /** What is no PLACE: just below, just above, and far away. */
    static final int[] NO_PLACES =
        {-1, 8, 9, 16, 255, 256, -8, Integer.MAX_VALUE, Integer.MIN_VALUE};

    private final ObjectTexts x = new ObjectTexts();
    private int calls = 0;
    private int textLength = 0;

    /** A new object with what the texts tell in its first PLACES. */
    static Run with(String... texts) {
        Run run = new Run();
        for (int p = 0; p < texts.length; p++) {
            run.read(p, texts[p], 0);
        }
        return run;
    }

    /** The text is read without a FAULT, and its object told so. */
    static void reads(String text, String told) {
        Run run = new Run();
        run.read(3, text, 0);
        run.fault(0, 0);
        run.fault(1, NONE);
        run.isTold(3, told);
    }

    /** The text has the FAULT at the place. */
    static void fails(String text, int fault, int place) {
        Run run = new Run();
        run.set(3, 77, true);
        run.read(3, text, fault);
        run.fault(0, fault);
        run.fault(1, place);
        run.number(3, 77);
        run.end(0, 0);
    }

    private void count() {
        calls++;
        if (calls == MOST_CALLS + 1) {
            Checks.due("a run of this test, in calls,", calls, MOST_CALLS);
        }
    }

    private void due(String call, long got, long want) {
        count();
        Checks.due(call, got, want);
    }

    private void due(String call, boolean got, boolean want) {
        count();
        Checks.due(call, got, want);
    }

    void feed(int a, int b, int c, int d, int e) {
        count();
        x.feed(a, b, c, d, e);
    }

    void feed(String twenty) {
        count();
        Checks.feed(x, twenty);
    }

    void end(int n, int want) {
        int got = x.end(n);
        due("end(" + n + ")", got, want);
        if (got != NONE) {
            textLength = got;
        }
    }

    /** Brings the characters behind the TEXT. */
    void write(String text) {
        for (int from = 0; from < text.length(); from += 20) {
            String part = text.substring(from, Math.min(from + 20, text.length()));
            feed(part);
            end(part.length(), textLength + part.length());
        }
    }

    void read(int p, int want) {
        int got = x.read(p);
        due("read(" + p + ")", got, want);
        if (got != NONE) {
            textLength = 0;
        }
    }

    void read(int p, String text, int want) {
        write(text);
        due("read(" + p + ") of " + shown(text), x.read(p), want);
        textLength = 0;
    }

    void fault(int what, int want) {
        due("fault(" + what + ")", x.fault(what), want);
    }

    void tell(int p, int want) {
        due("tell(" + p + ")", x.tell(p), want);
    }

    void letter(int k, int want) {
        due("letter(" + k + ")", x.letter(k), want);
    }

    /** OUT has these characters and no more; of a long one some are left out, to save calls. */
    void hasOut(String want) {
        int step = 1 + want.length() / 200;
        int near = want.length() < 200 ? 0 : want.length() - 60;
        for (int k = 0; k < want.length(); k++) {
            if (k % step == 0 || k >= near) {
                due("letter(" + k + ") of " + shown(want), x.letter(k), want.charAt(k));
            }
        }
        letter(want.length(), NONE);
    }

    void isTold(int p, String want) {
        due("tell(" + p + ") of " + shown(want), x.tell(p), want.length());
        hasOut(want);
    }

    void cons(int p, int q, int r, boolean want) {
        due("cons(" + p + ", " + q + ", " + r + ")", x.cons(p, q, r), want);
    }

    void side(int p, int which, int r, boolean want) {
        due("side(" + p + ", " + which + ", " + r + ")", x.side(p, which, r), want);
    }

    void set(int p, long n, boolean want) {
        due("set(" + p + ", " + n + ")", x.set(p, n), want);
    }

    void number(int p, long want) {
        due("number(" + p + ")", x.number(p), want);
    }

    void about(int p, int what, int want) {
        due("about(" + p + ", " + what + ")", x.about(p, what), want);
    }

    void same(int p, int q, boolean want) {
        due("same(" + p + ", " + q + ")", x.same(p, q), want);
    }

    void below(int p, int q, boolean want) {
        due("below(" + p + ", " + q + ")", x.below(p, q), want);
    }

    /** The text in one line, its middle left out when it is long. */
    static String shown(String text) {
        String line = text.replace("\n", "\\n");
        if (line.length() > 80) {
            line = line.substring(0, 40) + ".." + line.substring(line.length() - 30);
        }
        return "[" + line + "], " + text.length() + " long,";
    }
}
