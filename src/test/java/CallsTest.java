import java.util.ArrayList;
import java.util.List;
import java.util.function.ToLongFunction;

/** All promises: the 512 calls of one object, the last of them as due as the first. */
public final class CallsTest {
    private static final int MOST_CALLS = 512;

    /** A call and its due answer on an object that has had others before. */
    private record Call(String name, ToLongFunction<ObjectTexts> call, long want) { }

    public static void main(String[] args) {
        lastCallsAreAnswered();
        deepestObjectIsLookedThrough();
        mostObjectsAreKept();
        mostTextsAreRead();
        Checks.finish();
    }

    private static void sentence() {
        Checks.sentence("All promises (What it is)", "An object is used for at most 512 calls after it"
            + " has been made; what later calls answer is free.");
    }

    private static long of(boolean answer) {
        return answer ? 1 : 0;
    }

    /** The TEXT is (a . b), twenty blanks wait, and nine calls have been made. */
    private static ObjectTexts made() {
        ObjectTexts x = new ObjectTexts();
        Checks.feed(x, "(x y)");
        x.end(5);
        x.read(1);
        x.tell(1);
        x.set(2, 41);
        Checks.feed(x, "(a . b)");
        x.end(7);
        Checks.feed(x, " ".repeat(20));
        x.cons(2, 1, 3);
        return x;
    }

    private static List<Call> calls() {
        List<Call> calls = new ArrayList<>();
        calls.add(new Call("end(20)", x -> x.end(20), 27));
        calls.add(new Call("end(21)", x -> x.end(21), -1));
        calls.add(new Call("read(0)", x -> x.read(0), 0));
        calls.add(new Call("read(8)", x -> x.read(8), -1));
        calls.add(new Call("fault(0)", x -> x.fault(0), 0));
        calls.add(new Call("fault(1)", x -> x.fault(1), -1));
        calls.add(new Call("tell(3)", x -> x.tell(3), 8));
        calls.add(new Call("letter(4)", x -> x.letter(4), ')'));
        calls.add(new Call("letter(5)", x -> x.letter(5), -1));
        calls.add(new Call("cons(1, 1, 1)", x -> of(x.cons(1, 1, 1)), 1));
        calls.add(new Call("cons(1, 1, 8)", x -> of(x.cons(1, 1, 8)), 0));
        calls.add(new Call("side(1, 1, 1)", x -> of(x.side(1, 1, 1)), 1));
        calls.add(new Call("side(2, 1, 1)", x -> of(x.side(2, 1, 1)), 0));
        calls.add(new Call("set(7, 7)", x -> of(x.set(7, 7)), 1));
        calls.add(new Call("set(7, -7)", x -> of(x.set(7, -7)), 0));
        calls.add(new Call("number(2)", x -> x.number(2), 41));
        calls.add(new Call("number(1)", x -> x.number(1), -1));
        calls.add(new Call("about(3, 3)", x -> x.about(3, 3), 3));
        calls.add(new Call("about(3, 4)", x -> x.about(3, 4), 4));
        calls.add(new Call("same(6, 7)", x -> of(x.same(6, 7)), 1));
        calls.add(new Call("below(1, 2)", x -> of(x.below(1, 2)), 1));
        return calls;
    }

    /** As the 511th and the 512th call all are answered; behind them nothing is thrown. */
    private static void lastCallsAreAnswered() {
        sentence();
        for (int nth = MOST_CALLS - 1; nth <= MOST_CALLS; nth++) {
            for (Call call : calls()) {
                ObjectTexts x = made();
                for (int before = 9; before < nth - 1; before++) {
                    x.set(0, before);
                }
                Checks.due("call " + nth + ", " + call.name, call.call.applyAsLong(x), call.want);
                for (Call later : calls()) {
                    later.call.applyAsLong(x);
                }
                x.feed(1, 2, 3, 4, 5);
            }
        }
    }

    private static void deepestObjectIsLookedThrough() {
        sentence();
        for (int what = 1; what <= 4; what++) {
            ObjectTexts x = new ObjectTexts();
            for (int k = 1; k < MOST_CALLS; k++) {
                x.cons(0, 0, 0);
            }
            Checks.due("call 512, about(0, " + what + ")", x.about(0, what), what == 4 ? 1 : 511);
        }
        ObjectTexts x = new ObjectTexts();
        for (int k = 1; k < MOST_CALLS; k++) {
            x.cons(0, 1, 0);
        }
        Checks.due("call 512, tell(0)", x.tell(0), 511 + 3 + 511);
    }

    /** Each ' is two pairs: 24 times 39 of them, ahead of another atom each time, in five texts. */
    private static void mostObjectsAreKept() {
        sentence();
        Run run = new Run();
        for (int p = 0; p < 5; p++) {
            StringBuilder text = new StringBuilder("(");
            for (int group = 0; group < 24; group++) {
                text.append("'".repeat(39)).append((char) ('a' + p)).append((char) ('a' + group));
            }
            run.read(p, text + ")", 0);
        }
        for (int p = 1; p < 5; p++) {
            run.cons(0, p, 0, true);
        }
        int pairs = 24 * 39 * 2 + 24;
        run.about(0, 3, 5 * pairs + 4);
        run.about(0, 4, 5 * 24 + 2);
        run.tell(0, 2000);
    }

    /** 127 texts, each with a pair of its own, and each told. */
    private static void mostTextsAreRead() {
        sentence();
        Run run = new Run();
        for (int k = 0; k < 127; k++) {
            run.read(k % 8, "(" + (char) ('a' + k % 26) + "." + k / 26 + ")", 0);
            run.tell(k % 8, 7);
        }
        run.letter(1, 'a' + 126 % 26);
        run.letter(5, '4');
        run.same(0, 1, false);
        run.about(6, 3, 1);
    }
}
