import java.util.Map;
import java.util.Set;
import java.util.TreeMap;
import java.util.TreeSet;
import java.util.function.Consumer;
import java.util.function.ToLongFunction;

/**
 * All promises: what each call changes, and that it changes nothing else. Two objects are made by the
 * same calls, one gets the call too, and all that can be seen of both is set side by side.
 */
public final class ChangeTest {
    private static final long NONE = ObjectTexts.NONE;
    private static final long MOST = (1L << 62) - 1;

    private static final String NOTHING = "";
    private static final String OUT = "OUT";
    private static final String FAULT = "FAULT";
    private static final String TEXT = "TEXT";
    private static final String BYTES = "bytes";

    public static void main(String[] args) {
        newObjects(ChangeTest::makeNothing);
        newObjects(ChangeTest::makeMuch);
        refusedCalls(ChangeTest::makeNothing);
        refusedCalls(ChangeTest::makeMuch);
        refusedCalls(ChangeTest::makeFullText);
        callsThatLook(ChangeTest::makeNothing);
        callsThatLook(ChangeTest::makeMuch);
        callsThatLook(ChangeTest::makeFullText);
        endsOfAFullText();
        callsOfTheText();
        callsOfThePlaces();
        Checks.finish();
    }

    private static void makeNothing(ObjectTexts x) {
    }

    private static void write(ObjectTexts x, String text) {
        for (int from = 0; from < text.length(); from += 20) {
            String part = text.substring(from, Math.min(from + 20, text.length()));
            Checks.feed(x, part);
            x.end(part.length());
        }
    }

    /** Other objects in the PLACES, an OUT, a FAULT, a TEXT and bytes that wait. */
    private static void makeMuch(ObjectTexts x) {
        String[] texts = {"(a . b)", "7", "sym", "('x y)", "(a b c)", "12"};
        for (int p = 0; p < texts.length; p++) {
            write(x, texts[p]);
            x.read(p);
        }
        x.tell(3);
        write(x, "(wrong #)");
        x.read(0);
        write(x, "(in the text)");
        Checks.feed(x, "(what waits . there)");
    }

    private static void makeFullText(ObjectTexts x) {
        makeMuch(x);
        write(x, " ".repeat(3000 - 13));
        Checks.feed(x, "(what waits . there)");
    }

    /** All that can be seen of an object, by names; it is made anew for what a look takes away. */
    private static Map<String, String> seen(Consumer<ObjectTexts> making) {
        Map<String, String> seen = new TreeMap<>();
        ObjectTexts x = new ObjectTexts();
        making.accept(x);
        seen.put(OUT, out(x));
        seen.put(FAULT, x.fault(0) + " at " + x.fault(1));
        for (int p = 0; p < 8; p++) {
            x.tell(p);
            seen.put("PLACE " + p, out(x) + " of kind " + x.about(p, 0));
        }
        x.read(0);
        seen.put(BYTES, x.end(20) + " long, " + readOf(x));
        ObjectTexts y = new ObjectTexts();
        making.accept(y);
        seen.put(TEXT, y.end(0) + " long, " + readOf(y));
        return seen;
    }

    private static String out(ObjectTexts x) {
        StringBuilder text = new StringBuilder();
        for (int k = 0; x.letter(k) != NONE; k++) {
            text.append((char) x.letter(k));
        }
        return text.toString();
    }

    private static String readOf(ObjectTexts x) {
        int fault = x.read(0);
        x.tell(0);
        return fault == 0 ? out(x) : fault + " at " + x.fault(1);
    }

    /** The call gives the answer, and changes what is named, with commas between, and no more. */
    private static void due(Consumer<ObjectTexts> making, String name, ToLongFunction<ObjectTexts> call,
        long want, String changes) {
        long[] got = new long[1];
        Map<String, String> before = seen(making);
        Map<String, String> after = seen(x -> {
            making.accept(x);
            got[0] = call.applyAsLong(x);
        });
        Checks.due(name, got[0], want);
        Set<String> changed = new TreeSet<>();
        for (String part : before.keySet()) {
            if (!before.get(part).equals(after.get(part))) {
                changed.add(part);
            }
        }
        Checks.due("what " + name + " changes", String.join(", ", changed), changes);
    }

    private static long of(boolean answer) {
        return answer ? 1 : 0;
    }

    private static void newObjects(Consumer<ObjectTexts> making) {
        Checks.sentence("Promise 1", "Nil in all PLACES; no TEXT, OUT is empty.");
        due(making, "another new object", x -> new ObjectTexts().end(0), 0, NOTHING);
    }

    private static void refusedCalls(Consumer<ObjectTexts> making) {
        Checks.sentence("Promise 3", "NONE, refused, when n isn't 0 .. 20,");
        for (int n : new int[] {-1, 21, Integer.MAX_VALUE, Integer.MIN_VALUE}) {
            due(making, "end(" + n + ")", x -> x.end(n), NONE, NOTHING);
        }
        for (int none : new int[] {-1, 8, Integer.MAX_VALUE, Integer.MIN_VALUE}) {
            String name = "(" + none + ")";
            Checks.sentence("Promise 4", "NONE, and the TEXT stays, when there is no such PLACE.");
            due(making, "read" + name, x -> x.read(none), NONE, NOTHING);
            Checks.sentence("Promise 6", "NONE, and OUT stays, when there is no such PLACE.");
            due(making, "tell" + name, x -> x.tell(none), NONE, NOTHING);
            Checks.sentence("Promise 8", "False when there are no such PLACES.");
            due(making, "cons with" + name, x -> of(x.cons(none, 1, 2)), 0, NOTHING);
            due(making, "cons with" + name, x -> of(x.cons(1, none, 2)), 0, NOTHING);
            due(making, "cons with" + name, x -> of(x.cons(1, 2, none)), 0, NOTHING);
            Checks.sentence("Promise 9", "False when there are no such PLACES,");
            due(making, "side with" + name, x -> of(x.side(none, 0, 2)), 0, NOTHING);
            due(making, "side with" + name, x -> of(x.side(0, 0, none)), 0, NOTHING);
            due(making, "side with" + name, x -> of(x.side(4, 1, none)), 0, NOTHING);
            Checks.sentence("Promise 10", "False when there is no such PLACE,");
            due(making, "set with" + name, x -> of(x.set(none, 5)), 0, NOTHING);
        }
        Checks.sentence("Promise 9", "for another which,");
        for (int which : new int[] {-1, 2, Integer.MAX_VALUE, Integer.MIN_VALUE}) {
            due(making, "side(0, " + which + ", 1)", x -> of(x.side(0, which, 1)), 0, NOTHING);
        }
        Checks.sentence("Promise 9", "or when p has no pair.");
        for (int p : new int[] {1, 2, 5, 6, 7}) {
            due(making, "side(" + p + ", 0, 3)", x -> of(x.side(p, 0, 3)), 0, NOTHING);
            due(making, "side(" + p + ", 1, 3)", x -> of(x.side(p, 1, 3)), 0, NOTHING);
        }
        Checks.sentence("Promise 10", "or n is none.");
        for (long n : new long[] {-1, MOST + 1, Long.MAX_VALUE, Long.MIN_VALUE}) {
            due(making, "set(0, " + n + ")", x -> of(x.set(0, n)), 0, NOTHING);
        }
    }

    private static void looks(Consumer<ObjectTexts> making, String name,
        ToLongFunction<ObjectTexts> call) {
        ObjectTexts x = new ObjectTexts();
        making.accept(x);
        due(making, name, call, call.applyAsLong(x), NOTHING);
    }

    private static void callsThatLook(Consumer<ObjectTexts> making) {
        for (int p : new int[] {-1, 0, 1, 3, 4, 6, 7, 8}) {
            Checks.sentence("Promise 11", "The NATURAL in PLACE p;");
            looks(making, "number(" + p + ")", x -> x.number(p));
            Checks.sentence("Promise 12", "Of the object in PLACE p:");
            for (int what = -1; what <= 5; what++) {
                int asked = what;
                looks(making, "about(" + p + ", " + what + ")", x -> x.about(p, asked));
            }
            Checks.sentence("Promise 13", "Whether the objects in two PLACES are equal.");
            looks(making, "same(" + p + ", 4)", x -> of(x.same(p, 4)));
            Checks.sentence("Promise 14",
                "Whether that in p, told as a text, is lower than that in q:");
            looks(making, "below(" + p + ", 4)", x -> of(x.below(p, 4)));
            looks(making, "below(4, " + p + ")", x -> of(x.below(4, p)));
            Checks.sentence("Promise 7", "Character k of OUT; NONE when there is none.");
            looks(making, "letter(" + p + ")", x -> x.letter(p));
            Checks.sentence("Promise 5", "NONE for another what.");
            looks(making, "fault(" + p + ")", x -> x.fault(p));
        }
    }

    private static void endsOfAFullText() {
        Checks.sentence("Promise 3", "or there would be more than 3000.");
        Consumer<ObjectTexts> full = ChangeTest::makeFullText;
        due(full, "end(1) at 3000", x -> x.end(1), NONE, NOTHING);
        due(full, "end(20) at 3000", x -> x.end(20), NONE, NOTHING);
        Checks.sentence("Promise 2",
            "(They are 0 at first, and behind each end() that is not refused.)");
        due(full, "end(0) at 3000", x -> x.end(0), 3000, BYTES);
    }

    private static void callsOfTheText() {
        Consumer<ObjectTexts> much = ChangeTest::makeMuch;
        Checks.sentence("Promise 2", "Twenty bytes wait,");
        due(much, "feed", x -> {
            Checks.feed(x, "(other bytes . here)");
            return 0;
        }, 0, BYTES);
        Checks.sentence("Promise 3",
            "The first n of the bytes that wait come behind the TEXT: how many it has.");
        due(much, "end(0)", x -> x.end(0), 13, BYTES);
        due(much, "end(1)", x -> x.end(1), 14, "TEXT, bytes");
        due(much, "end(20)", x -> x.end(20), 33, "TEXT, bytes");
        Checks.sentence("Promise 4",
            "The TEXT, which is empty then, is read: 0, and its object comes to PLACE p;");
        for (int p = 0; p < 8; p++) {
            int to = p;
            due(much, "read(" + p + ")", x -> x.read(to), 0, "FAULT, PLACE " + p + ", TEXT");
        }
        Checks.sentence("Promise 4", "or the FAULT (PLACE p stays).");
        Consumer<ObjectTexts> spoilt = x -> {
            makeMuch(x);
            write(x, ")");
        };
        due(spoilt, "read(4) of a FAULT", x -> x.read(4), 3, "FAULT, TEXT");
        Checks.sentence("Promise 6",
            "OUT becomes what the object in PLACE p is TOLD as: how many characters.");
        due(much, "tell(4)", x -> x.tell(4), 7, OUT);
        due(much, "tell(3)", x -> x.tell(3), 6, NOTHING);
    }

    private static void callsOfThePlaces() {
        Consumer<ObjectTexts> much = ChangeTest::makeMuch;
        for (int r = 0; r < 8; r++) {
            int to = r;
            String place = "PLACE " + r;
            Checks.sentence("Promise 8", "PLACE r gets the pair of the objects in p and q.");
            due(much, "cons(0, 1, " + r + ")", x -> of(x.cons(0, 1, to)), 1, place);
            Checks.sentence("Promise 9",
                "PLACE r gets the first (which 0) or second one (1) of the pair in p.");
            due(much, "side(4, 0, " + r + ")", x -> of(x.side(4, 0, to)), 1, place);
            due(much, "side(4, 1, " + r + ")", x -> of(x.side(4, 1, to)), 1, place);
            Checks.sentence("Promise 10", "PLACE p gets a NATURAL.");
            due(much, "set(" + r + ", 99)", x -> of(x.set(to, 99)), 1, place);
        }
    }
}
