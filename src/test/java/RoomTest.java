import com.sun.management.ThreadMXBean;
import java.lang.management.ManagementFactory;
import java.util.Random;

/** No call throws, whatever its arguments are and however late it comes, and none makes much. */
public final class RoomTest {
    private static final ThreadMXBean THREADS =
        (ThreadMXBean) ManagementFactory.getThreadMXBean();
    // An element takes at most eight bytes: a quarter of the room's 7.3 million elements.
    private static final long A_QUARTER_OF_THE_ROOM = 7_300_000L * 8 / 4;

    private static final int[] EDGES =
        {-1, 0, 8, 20, 21, 2000, 3000, Integer.MAX_VALUE, Integer.MIN_VALUE};

    public static void main(String[] args) {
        fullestRunFits();
        manyNewObjectsFit();
        quietCallsMakeNothing();
        lateCallsThrowNothing();
        Checks.finish();
    }

    private static long made() {
        return THREADS.getThreadAllocatedBytes(Thread.currentThread().getId());
    }

    private static void fits(String what, long before, long most) {
        long made = made() - before;
        System.out.println(what + " made " + made + " bytes");
        Checks.due(what + " made " + made + " bytes: fits", made <= most, true);
    }

    /** 512 calls that bring as many new objects as can be: each ' is two pairs. */
    private static void fullestRunFits() {
        long before = made();
        ObjectTexts x = new ObjectTexts();
        int calls = 0;
        int atom = 0;
        int[] words = new int[5];
        while (calls < 500) {
            x.feed(0x28272727, 0x27272727, 0x27272727, 0x27272727, 0x27272727);
            x.end(20);
            words[0] = 0x27270000 | (('a' + atom % 26) << 8) | ('a' + atom / 26);
            words[1] = 0x29000000;
            x.feed(words[0], words[1], 0, 0, 0);
            x.end(5);
            Checks.due("read", x.read(atom % 8), 0);
            calls += 5;
            atom++;
        }
        Checks.due("about(7, 3)", x.about(7, 3), 2 * 21 + 1);
        fits("the fullest run", before, A_QUARTER_OF_THE_ROOM);
    }

    private static void manyNewObjectsFit() {
        long before = made();
        for (int k = 0; k < 256; k++) {
            new ObjectTexts();
        }
        fits("256 new objects", before, A_QUARTER_OF_THE_ROOM);
    }

    private static void quietCallsMakeNothing() {
        ObjectTexts x = new ObjectTexts();
        for (int p = 0; p < 2; p++) {
            Checks.feed(x, "(a (b . c) 'd 4" + p + ")");
            Checks.due("end(17)", x.end(17), 17);
            Checks.due("read(" + p + ")", x.read(p), 0);
        }
        long before = made();
        for (int k = 0; k < 500; k++) {
            x.tell(0);
            x.letter(k);
            x.below(0, 1);
            x.same(0, 1);
            x.about(0, k % 5);
            x.side(0, k % 2, 2);
            x.cons(0, 1, 3);
            x.set(4, 5);
            x.number(4);
            x.feed(0x28612062, 0x29000000, 0, 0, 0);
            x.end(5);
            x.read(5);
            x.fault(k % 3);
        }
        fits("6500 calls", before, 20_000);
    }

    private static void lateCallsThrowNothing() {
        Random random = new Random(7);
        ObjectTexts x = new ObjectTexts();
        long before = made();
        for (int k = 0; k < 400_000; k++) {
            callAnything(x, random);
        }
        for (int k = 0; k < 20_000; k++) {
            x.set(0, k);
            x.cons(0, 1, 1);
        }
        for (int k = 0; k < 100_000; k++) {
            callAnything(x, random);
        }
        fits("many late calls", before, A_QUARTER_OF_THE_ROOM);
    }

    private static int any(Random random) {
        return random.nextInt(4) == 0 ? EDGES[random.nextInt(EDGES.length)] : random.nextInt(8);
    }

    private static void callAnything(ObjectTexts x, Random random) {
        int p = any(random);
        int q = any(random);
        int r = any(random);
        switch (random.nextInt(14)) {
            case 0:
            case 1:
                x.feed(signs(random), signs(random), signs(random), signs(random), signs(random));
                x.end(20);
                break;
            case 2:
                x.end(p);
                break;
            case 3:
                x.read(p);
                break;
            case 4:
                x.fault(p);
                break;
            case 5:
                x.tell(p);
                break;
            case 6:
                x.letter(p);
                break;
            case 7:
                x.cons(p, q, r);
                break;
            case 8:
                x.side(p, q, r);
                break;
            case 9:
                x.set(p, random.nextInt(9) == 0 ? random.nextLong() : q);
                break;
            case 10:
                x.number(p);
                break;
            case 11:
                x.about(p, q);
                break;
            case 12:
                x.same(p, q);
                break;
            default:
                x.below(p, q);
                break;
        }
    }

    private static int signs(Random random) {
        String often = "((((()))))''.  ab12;\n#";
        int word = 0;
        for (int k = 0; k < 4; k++) {
            word = word << 8 | often.charAt(random.nextInt(often.length()));
        }
        return word;
    }
}
