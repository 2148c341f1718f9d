import java.math.BigInteger;
import java.util.ArrayList;
import java.util.HashMap;
import java.util.HashSet;
import java.util.List;
import java.util.Map;
import java.util.Random;
import java.util.Set;
import java.util.regex.Matcher;
import java.util.regex.Pattern;

/** All promises: long runs of calls, always the same ones, beside a plain model of the document. */
public final class ModelTest {
    private static final int RUNS = 3000;
    private static final int CALLS = 512;

    private final Random random;
    private final Model model = new Model();
    private final ObjectTexts x = new ObjectTexts();
    private final StringBuilder trace = new StringBuilder();
    private int calls = 0;

    private ModelTest(long seed) {
        random = new Random(seed);
    }

    public static void main(String[] args) {
        int runs = args.length > 0 ? Integer.parseInt(args[0]) : RUNS;
        int firstSeed = args.length > 1 ? Integer.parseInt(args[1]) : 1;
        Map<Integer, Integer> faults = new HashMap<>();
        for (int seed = firstSeed; seed < firstSeed + runs; seed++) {
            ModelTest run = new ModelTest(seed);
            if (!run.isAsDue(faults)) {
                Checks.due("run " + seed + ":" + run.trace, 0, 1);
                break;
            }
        }
        System.out.println("reads by their fault: " + faults);
        for (int fault = 0; fault <= 5; fault++) {
            Checks.due("there were reads of fault " + fault, faults.containsKey(fault), true);
        }
        Checks.finish();
    }

    private boolean isAsDue(Map<Integer, Integer> faults) {
        while (calls < CALLS) {
            boolean fine = random.nextInt(3) == 0 ? readsSomeText(faults) : callsSomething();
            if (!fine) {
                return false;
            }
        }
        return true;
    }

    private boolean answers(String call, long got, long want) {
        calls++;
        trace.append("\n  ").append(call).append(" answered ").append(got);
        if (got != want) {
            trace.append(", due is ").append(want);
        }
        return got == want || calls > CALLS;
    }

    private boolean answers(String call, boolean got, boolean want) {
        return answers(call, got ? 1 : 0, want ? 1 : 0);
    }

    private int place() {
        return random.nextInt(25) == 0 ? random.nextInt(12) - 2 : random.nextInt(8);
    }

    private boolean readsSomeText(Map<Integer, Integer> faults) {
        String text = new TextMaker(random).make();
        for (int from = 0; from < text.length(); from += 20) {
            String part = text.substring(from, Math.min(text.length(), from + 20));
            if (random.nextInt(40) == 0) {
                part = part.substring(0, random.nextInt(part.length() + 1));
            }
            Checks.feed(x, part);
            calls++;
            model.feed(part);
            int n = random.nextInt(60) == 0 ? random.nextInt(30) - 4 : part.length();
            trace.append("\n  feed [").append(part).append("]");
            if (!answers("end(" + n + ")", x.end(n), model.end(n))) {
                return false;
            }
        }
        int p = place();
        int want = model.read(p);
        faults.merge(want, 1, Integer::sum);
        return answers("read(" + p + ")", x.read(p), want)
            && answers("fault(0)", x.fault(0), model.fault)
            && answers("fault(1)", x.fault(1), model.faultPlace);
    }

    private boolean callsSomething() {
        int p = place();
        int q = place();
        int r = place();
        int what = random.nextInt(20) == 0 ? random.nextInt(10) - 2 : random.nextInt(5);
        String pq = p + ", " + q;
        switch (random.nextInt(9)) {
            case 0:
                return tells(p);
            case 1:
            case 2:
                return answers("cons(" + pq + ", " + r + ")", x.cons(p, q, r), model.cons(p, q, r));
            case 3:
                int which = random.nextInt(12) == 0 ? what : random.nextInt(2);
                return answers("side(" + p + ", " + which + ", " + r + ")",
                    x.side(p, which, r), model.side(p, which, r));
            case 4:
                long n = random.nextInt(4) == 0 ? random.nextLong() : random.nextInt(50) - 1;
                return answers("set(" + p + ", " + n + ")", x.set(p, n), model.set(p, n));
            case 5:
                return answers("number(" + p + ")", x.number(p), model.number(p));
            case 6:
                return answers("about(" + p + ", " + what + ")",
                    x.about(p, what), model.about(p, what));
            case 7:
                return answers("same(" + pq + ")", x.same(p, q), model.same(p, q));
            default:
                return answers("below(" + pq + ")", x.below(p, q), model.below(p, q));
        }
    }

    private boolean tells(int p) {
        if (!answers("tell(" + p + ")", x.tell(p), model.tell(p))) {
            return false;
        }
        for (int k = 0; k < 8; k++) {
            int nth = random.nextInt(model.out.length() + 3) - 1;
            if (!answers("letter(" + nth + ")", x.letter(nth), model.letter(nth))) {
                return false;
            }
        }
        return true;
    }

    /** Texts of objects, some of them spoilt. */
    private static final class TextMaker {
        private static final String[] ATOMS = {"a", "b", "nil", "t", "quote", "x+", "-1", "abcdefghijk",
            "0", "7", "007", "42", "4611686018427387903", "1+", "?", "__"};
        private static final String[] SPOILERS = {"(", ")", "'", ".", "#", "A", "abcdefghijkl",
            "4611686018427387904", ";", "\n", "\t", "\u00e9", "\u0000", " x ", "(((((", "''''''"};

        private final Random random;
        private final StringBuilder text = new StringBuilder();

        TextMaker(Random random) {
            this.random = random;
        }

        String make() {
            int shape = random.nextInt(60);
            if (shape == 0) {
                many();
            } else if (shape <= 3) {
                deep();
            } else {
                blanks();
                object(random.nextInt(6));
                blanks();
            }
            for (int k = random.nextInt(5) - 2; k > 0; k--) {
                spoil();
            }
            return text.toString();
        }

        private void many() {
            text.append('(');
            for (int k = 990 + random.nextInt(20); k > 0; k--) {
                text.append(random.nextInt(9) == 0 ? "'" : random.nextBoolean() ? "1 " : "a ");
            }
            text.append(")");
        }

        private void deep() {
            int levels = 36 + random.nextInt(7);
            StringBuilder close = new StringBuilder();
            for (int k = 0; k < levels; k++) {
                boolean list = random.nextBoolean();
                text.append(list ? "(" : "'");
                close.append(list ? ")" : "");
            }
            text.append("a").append(close);
        }

        private void spoil() {
            int at = random.nextInt(text.length() + 1);
            if (random.nextBoolean()) {
                text.insert(at, SPOILERS[random.nextInt(SPOILERS.length)]);
            } else if (at < text.length()) {
                text.delete(at, Math.min(text.length(), at + 1 + random.nextInt(3)));
            }
        }

        private void blanks() {
            String[] some = {"", " ", " ", " ", "\n", "  ", " ;(a\n", ";'\n "};
            text.append(some[random.nextInt(some.length)]);
        }

        private void object(int levels) {
            int kind = random.nextInt(levels > 0 ? 5 : 2);
            if (kind <= 1) {
                text.append(ATOMS[random.nextInt(ATOMS.length)]);
            } else if (kind == 2) {
                text.append('\'');
                object(levels - 1);
            } else {
                list(levels - 1);
            }
        }

        private void list(int levels) {
            text.append('(');
            int objects = random.nextInt(5);
            for (int k = 0; k < objects; k++) {
                object(levels);
                text.append(' ');
                blanks();
            }
            if (objects > 0 && random.nextInt(3) == 0) {
                text.append('.');
                blanks();
                object(levels);
            }
            text.append(')');
        }
    }

    /** What the document says, written another way: words by a pattern, objects by recursion. */
    private static final class Model {
        private static final Pattern WORD =
            Pattern.compile("(?<blanks>(?:[ \\n]|;[^\\n]*)*)(?<word>[()'.]|[a-z0-9+*/<>=?!_-]+|)",
                Pattern.DOTALL);
        private static final BigInteger MOST = BigInteger.ONE.shiftLeft(62).subtract(BigInteger.ONE);

        private record Pair(Object first, Object second) { }

        private record Word(String letters, int place, int bad) { }

        private static final class Fault extends RuntimeException {
            private static final long serialVersionUID = 1L;
            final int number;
            final int place;

            Fault(int number, int place) {
                this.number = number;
                this.place = place;
            }
        }

        private static final class Enough extends RuntimeException {
            private static final long serialVersionUID = 1L;
        }

        // Sides by their identities, since hashing a pair that shares its parts would not end.
        private final Map<String, Pair> pairs = new HashMap<>();
        private final Map<Object, Object> atoms = new HashMap<>();
        private final Object[] places = new Object[8];
        private final Map<Object, Integer> ids = new java.util.IdentityHashMap<>();
        private String waiting = "";
        private String text = "";
        private String out = "";
        private int fault = 0;
        private int faultPlace = -1;
        private List<Word> words;
        private int next;

        Model() {
            java.util.Arrays.fill(places, atom("nil"));
        }

        private Object atom(Object atom) {
            Object one = atoms.computeIfAbsent(atom, a -> a);
            ids.putIfAbsent(one, ids.size());
            return one;
        }

        private Object pair(Object first, Object second) {
            Pair one = pairs.computeIfAbsent(ids.get(first) + "." + ids.get(second),
                key -> new Pair(first, second));
            ids.putIfAbsent(one, ids.size());
            return one;
        }

        private static boolean isPlace(int p) {
            return 0 <= p && p <= 7;
        }

        void feed(String part) {
            waiting = part;
        }

        int end(int n) {
            if (n < 0 || n > 20 || text.length() + n > 3000) {
                return -1;
            }
            text += (waiting + "\0".repeat(20)).substring(0, n);
            waiting = "";
            return text.length();
        }

        int read(int p) {
            if (!isPlace(p)) {
                return -1;
            }
            words = split(text);
            text = "";
            next = 0;
            try {
                Object object = object(0);
                if (!look(0, "").isEmpty()) {
                    throw new IllegalStateException("the end's look lets nothing else pass");
                }
                places[p] = object;
                fault = 0;
                faultPlace = -1;
            } catch (Fault f) {
                fault = f.number;
                faultPlace = f.place;
            }
            return fault;
        }

        private static List<Word> split(String text) {
            List<Word> words = new ArrayList<>();
            Matcher matcher = WORD.matcher(text);
            int at = 0;
            while (true) {
                matcher.region(at, text.length());
                if (!matcher.lookingAt()) {
                    throw new IllegalStateException("blanks and nothing always match");
                }
                String letters = matcher.group("word");
                int place = matcher.start("word");
                int bad = 0;
                if (letters.isEmpty() && place < text.length()) {
                    bad = 1;
                } else if (letters.matches("[0-9]+")) {
                    bad = new BigInteger(letters).compareTo(MOST) > 0 ? 2 : 0;
                } else if (letters.length() > 11) {
                    bad = 2;
                }
                words.add(new Word(letters, place, bad));
                at = matcher.end();
                if (letters.isEmpty()) {
                    return words;
                }
            }
        }

        /** The next word, when it is one of those that may stand here: "" the end, "a" an atom. */
        private String look(int open, String may) {
            Word word = words.get(next);
            if (word.bad > 0) {
                throw new Fault(word.bad, word.place);
            }
            String kind = word.letters.isEmpty() || "()'.".contains(word.letters) ? word.letters : "a";
            if (kind.isEmpty() ? !may.isEmpty() : !may.contains(kind)) {
                throw new Fault(3, word.place);
            }
            if ((kind.equals("(") || kind.equals("'")) && open == 40) {
                throw new Fault(4, word.place);
            }
            if (!kind.isEmpty() && next >= 1000) {
                throw new Fault(5, word.place);
            }
            return word.letters;
        }

        private Object object(int open) {
            String word = look(open, "a('");
            next++;
            if (word.equals("'")) {
                Object quoted = object(open + 1);
                return pair(atom("quote"), pair(quoted, atom("nil")));
            }
            if (word.equals("(")) {
                return look(open + 1, "a(')").equals(")") ? closed(atom("nil")) : rest(open + 1);
            }
            return word.matches("[0-9]+") ? atom(Long.valueOf(new BigInteger(word).longValue()))
                : atom(word);
        }

        private Object closed(Object object) {
            next++;
            return object;
        }

        private Object rest(int open) {
            List<Object> objects = new ArrayList<>();
            Object list = atom("nil");
            objects.add(object(open));
            while (true) {
                String word = look(open, "a('.)");
                if (word.equals(")")) {
                    break;
                }
                if (word.equals(".")) {
                    next++;
                    list = object(open);
                    look(open, ")");
                    break;
                }
                objects.add(object(open));
            }
            next++;
            for (int k = objects.size() - 1; k >= 0; k--) {
                list = pair(objects.get(k), list);
            }
            return list;
        }

        private String told(Object object, int most) {
            StringBuilder told = new StringBuilder();
            try {
                tell(object, told, most);
            } catch (Enough enough) {
                told.setLength(most);
            }
            return told.substring(0, Math.min(most, told.length()));
        }

        private void tell(Object object, StringBuilder told, int most) {
            if (told.length() > most) {
                throw new Enough();
            }
            if (!(object instanceof Pair pair)) {
                told.append(object);
            } else if (pair.first.equals("quote") && pair.second instanceof Pair quoted
                && quoted.second.equals("nil")) {
                told.append("'");
                tell(quoted.first, told, most);
            } else {
                told.append("(");
                tell(pair.first, told, most);
                Object rest = pair.second;
                for (; rest instanceof Pair more; rest = more.second) {
                    told.append(" ");
                    tell(more.first, told, most);
                }
                if (!rest.equals("nil")) {
                    told.append(" . ").append(rest);
                }
                told.append(")");
            }
        }

        int tell(int p) {
            if (!isPlace(p)) {
                return -1;
            }
            out = told(places[p], 2000);
            return out.length();
        }

        int letter(int k) {
            return k >= 0 && k < out.length() ? out.charAt(k) : -1;
        }

        boolean cons(int p, int q, int r) {
            if (!isPlace(p) || !isPlace(q) || !isPlace(r)) {
                return false;
            }
            places[r] = pair(places[p], places[q]);
            return true;
        }

        boolean side(int p, int which, int r) {
            if (!isPlace(p) || !isPlace(r) || (which != 0 && which != 1)
                || !(places[p] instanceof Pair pair)) {
                return false;
            }
            places[r] = which == 0 ? pair.first : pair.second;
            return true;
        }

        boolean set(int p, long n) {
            if (!isPlace(p) || n < 0 || n >= 1L << 62) {
                return false;
            }
            places[p] = atom(Long.valueOf(n));
            return true;
        }

        long number(int p) {
            return isPlace(p) && places[p] instanceof Long n ? n : -1;
        }

        int about(int p, int what) {
            if (!isPlace(p) || what < 0 || what > 4) {
                return -1;
            }
            Object object = places[p];
            if (what == 0) {
                return object instanceof Long ? 0 : object instanceof String ? 1 : 2;
            }
            if (what == 1) {
                return depth(object, new java.util.IdentityHashMap<>());
            }
            if (what == 2) {
                int elements = 0;
                for (; object instanceof Pair pair; object = pair.second) {
                    elements++;
                }
                return object.equals("nil") ? elements : -1;
            }
            Set<Integer> seen = new HashSet<>();
            int[] counts = new int[2];
            lookThrough(object, seen, counts);
            return counts[what - 3];
        }

        private int depth(Object object, Map<Object, Integer> known) {
            if (!(object instanceof Pair pair)) {
                return 0;
            }
            Integer old = known.get(object);
            if (old == null) {
                old = 1 + Math.max(depth(pair.first, known), depth(pair.second, known));
                known.put(object, old);
            }
            return old;
        }

        private void lookThrough(Object object, Set<Integer> seen, int[] counts) {
            if (!seen.add(ids.get(object))) {
                return;
            }
            if (object instanceof Pair pair) {
                counts[0]++;
                lookThrough(pair.first, seen, counts);
                lookThrough(pair.second, seen, counts);
            } else {
                counts[1]++;
            }
        }

        boolean same(int p, int q) {
            return isPlace(p) && isPlace(q) && places[p] == places[q];
        }

        boolean below(int p, int q) {
            return isPlace(p) && isPlace(q)
                && told(places[p], 200).compareTo(told(places[q], 200)) < 0;
        }
    }
}
