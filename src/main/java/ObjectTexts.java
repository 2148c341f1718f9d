import java.util.Arrays;

/** Objects of a Lisp read from texts and told as texts; equal ones are one. */
public final class ObjectTexts {
    public static final int NONE = -1;

    private static final int PLACES = 8;
    private static final int MOST_TOLD = 2000;
    private static final int MOST_COMPARED = 200;

    private final Store store;
    private final Text text;
    private final Reader reader;
    private final Teller teller;
    private final Sheet out;
    private final Sheet left;
    private final Sheet right;
    private final int[] places;

    public ObjectTexts() {
        store = new Store();
        text = new Text();
        reader = new Reader(text, store);
        teller = new Teller(store);
        out = new Sheet(MOST_TOLD);
        left = new Sheet(MOST_COMPARED);
        right = new Sheet(MOST_COMPARED);
        places = new int[PLACES];
        Arrays.fill(places, Store.NIL);
    }

    public void feed(int a, int b, int c, int d, int e) {
        text.await(a, b, c, d, e);
    }

    public int end(int n) {
        return text.append(n);
    }

    public int read(int p) {
        if (!isPlace(p) || !store.makeRoom(reader.mostNewObjects())) {
            return NONE;
        }
        int found = reader.readText();
        text.clear();
        if (found == Reader.NO_FAULT) {
            places[p] = reader.result();
        }
        return found;
    }

    public int fault(int what) {
        switch (what) {
            case 0:
                return reader.latestFault();
            case 1:
                return reader.latestFaultPlace();
            default:
                return NONE;
        }
    }

    public int tell(int p) {
        if (!isPlace(p)) {
            return NONE;
        }
        teller.tellOn(out, places[p]);
        return out.length();
    }

    public int letter(int k) {
        return out.signAt(k);
    }

    public boolean cons(int p, int q, int r) {
        if (!isPlace(p) || !isPlace(q) || !isPlace(r) || !store.makeRoom(1)) {
            return false;
        }
        places[r] = store.pairOf(places[p], places[q]);
        return true;
    }

    public boolean side(int p, int which, int r) {
        if (!isPlace(p) || !isPlace(r) || which < 0 || which > 1 || !store.isPair(places[p])) {
            return false;
        }
        places[r] = which == 0 ? store.firstOf(places[p]) : store.secondOf(places[p]);
        return true;
    }

    public boolean set(int p, long n) {
        if (!isPlace(p) || n < 0 || n > Store.MOST_NATURAL || !store.makeRoom(1)) {
            return false;
        }
        places[p] = store.naturalOf(n);
        return true;
    }

    public long number(int p) {
        if (!isPlace(p) || store.kindOf(places[p]) != Store.NATURAL) {
            return NONE;
        }
        return store.valueOf(places[p]);
    }

    public int about(int p, int what) {
        if (!isPlace(p)) {
            return NONE;
        }
        switch (what) {
            case 0:
                return store.kindOf(places[p]);
            case 1:
                return store.depthOf(places[p]);
            case 2:
                return store.lengthOf(places[p]);
            case 3:
                return store.countParts(places[p], true);
            case 4:
                return store.countParts(places[p], false);
            default:
                return NONE;
        }
    }

    public boolean same(int p, int q) {
        return isPlace(p) && isPlace(q) && places[p] == places[q];
    }

    public boolean below(int p, int q) {
        if (!isPlace(p) || !isPlace(q)) {
            return false;
        }
        teller.tellOn(left, places[p]);
        teller.tellOn(right, places[q]);
        return left.isLowerThan(right);
    }

    private static boolean isPlace(int p) {
        return p >= 0 && p < PLACES;
    }

    /**
     * The characters of atoms. A symbol is held as a number whose digits, to the base of the row's
     * length, are its characters' indices in the row: eleven of them stay below 2^62.
     */
    private static final class Signs {
        static final String OF_NATURALS = "0123456789";
        // The blank is no symbol's character: with no digit 0, no two symbols have the same number.
        static final String OF_SYMBOLS = " abcdefghijklmnopqrstuvwxyz0123456789+-*/<>=?!_";
        static final int MOST_IN_SYMBOL = 11;

        static boolean isDigit(char sign) {
            return sign >= '0' && sign <= '9';
        }

        static boolean isOfAtom(char sign) {
            return OF_SYMBOLS.indexOf(sign) > 0;
        }

        static long withSign(long code, char sign) {
            return code * OF_SYMBOLS.length() + OF_SYMBOLS.indexOf(sign);
        }

        static long codeOf(String symbol) {
            long code = 0;
            for (int k = 0; k < symbol.length(); k++) {
                code = withSign(code, symbol.charAt(k));
            }
            return code;
        }
    }

    /** All objects, each once and by a number of its own: equal objects have the same number. */
    private static final class Store {
        static final int NATURAL = 0;
        static final int SYMBOL = 1;
        static final int PAIR = 2;
        static final long MOST_NATURAL = (1L << 62) - 1;
        static final int NIL = 0;
        static final int QUOTE = 1;

        private static final int FIRST_ROOM = 128;
        // 512 calls bring at most 5120 characters, each at most two objects, and 512 objects more.
        private static final int MOST_ROOM = 16384;
        private static final int KIND_BITS = 2;
        private static final long KIND_MASK = (1L << KIND_BITS) - 1;
        private static final int SIDE_BITS = 20;
        private static final long SIDE_MASK = (1L << SIDE_BITS) - 1;
        private static final long SPREAD = 0x9E3779B97F4A7C15L;

        // A key is an object's value and kind: no two objects have the same.
        private long[] keys;
        private int[] depths;
        private int[] lengths;
        private int[] marks;
        private int[] parts;
        private int[] slots;
        private int count;
        private int mark;

        Store() {
            keys = new long[FIRST_ROOM];
            depths = new int[FIRST_ROOM];
            lengths = new int[FIRST_ROOM];
            marks = new int[FIRST_ROOM];
            parts = new int[FIRST_ROOM];
            slots = new int[2 * FIRST_ROOM];
            Arrays.fill(slots, NONE);
            // Their order makes them the objects NIL and QUOTE.
            symbolOf(Signs.codeOf("nil"));
            symbolOf(Signs.codeOf("quote"));
            // Of all atoms nil alone is a list.
            lengths[NIL] = 0;
        }

        /** False when so many more objects would be beyond what 512 calls can make. */
        boolean makeRoom(int more) {
            if (more < 0 || more > MOST_ROOM - count) {
                return false;
            }
            int room = FIRST_ROOM;
            while (room < count + more && room < MOST_ROOM) {
                room *= 2;
            }
            if (room > keys.length) {
                growTo(room);
            }
            return true;
        }

        int naturalOf(long n) {
            return numberOf(NATURAL, n, 0, NONE);
        }

        int symbolOf(long code) {
            return numberOf(SYMBOL, code, 0, NONE);
        }

        int pairOf(int first, int second) {
            long value = ((long) first << SIDE_BITS) | second;
            int depth = 1 + Math.max(depthOf(first), depthOf(second));
            int rest = lengthOf(second);
            return numberOf(PAIR, value, depth, rest == NONE ? NONE : rest + 1);
        }

        int kindOf(int object) {
            return has(object) ? (int) (keys[object] & KIND_MASK) : SYMBOL;
        }

        long valueOf(int object) {
            return has(object) ? keys[object] >>> KIND_BITS : 0;
        }

        int depthOf(int object) {
            return has(object) ? depths[object] : 0;
        }

        /** How many elements a list has, NONE of what is no list. */
        int lengthOf(int object) {
            return has(object) ? lengths[object] : NONE;
        }

        boolean isPair(int object) {
            return has(object) && (keys[object] & KIND_MASK) == PAIR;
        }

        int firstOf(int object) {
            return isPair(object) ? (int) (valueOf(object) >>> SIDE_BITS) : NIL;
        }

        int secondOf(int object) {
            return isPair(object) ? (int) (valueOf(object) & SIDE_MASK) : NIL;
        }

        /** X of the list (quote X), NONE of another object. */
        int quotedIn(int object) {
            if (firstOf(object) != QUOTE || lengthOf(object) != 2) {
                return NONE;
            }
            return firstOf(secondOf(object));
        }

        /** How many different pairs, or else atoms, there are in an object, itself too. */
        int countParts(int object, boolean pairs) {
            mark++;
            int size = addPart(object, 0);
            int counted = 0;
            for (int k = 0; k < size && k < parts.length; k++) {
                int part = parts[k];
                boolean isPair = isPair(part);
                if (isPair) {
                    size = addPart(firstOf(part), size);
                    size = addPart(secondOf(part), size);
                }
                if (isPair == pairs) {
                    counted++;
                }
            }
            return counted;
        }

        private int addPart(int object, int size) {
            if (!has(object) || marks[object] == mark || size < 0 || size >= parts.length) {
                return size;
            }
            marks[object] = mark;
            parts[size] = object;
            return size + 1;
        }

        private boolean has(int object) {
            return object >= 0 && object < count;
        }

        private int numberOf(int kind, long value, int depth, int length) {
            long key = (value << KIND_BITS) | kind;
            int slot = slotOf(key);
            if (slot != NONE && has(slots[slot])) {
                return slots[slot];
            }
            if (slot == NONE || count >= keys.length) {
                return NIL;
            }
            slots[slot] = count;
            keys[count] = key;
            depths[count] = depth;
            lengths[count] = length;
            count++;
            return count - 1;
        }

        /** Where the key's object stands, or would stand; half of the slots are always empty. */
        private int slotOf(long key) {
            int start = (int) ((key * SPREAD) >>> 32);
            for (int k = 0; k < slots.length; k++) {
                int slot = (start + k) & (slots.length - 1);
                int object = slots[slot];
                if (object < 0 || object >= count || keys[object] == key) {
                    return slot;
                }
            }
            return NONE;
        }

        private void growTo(int room) {
            if (room < keys.length || room > MOST_ROOM) {
                return;
            }
            keys = Arrays.copyOf(keys, room);
            depths = Arrays.copyOf(depths, room);
            lengths = Arrays.copyOf(lengths, room);
            marks = Arrays.copyOf(marks, room);
            parts = new int[room];
            slots = new int[2 * room];
            Arrays.fill(slots, NONE);
            for (int object = 0; object < count; object++) {
                int slot = slotOf(keys[object]);
                if (slot != NONE) {
                    slots[slot] = object;
                }
            }
        }
    }

    /** The TEXT and the bytes that wait to come behind it. */
    private static final class Text {
        private static final int MOST = 3000;
        private static final int MOST_WAITING = 20;

        private final char[] signs;
        private final int[] waiting;
        private int length;

        Text() {
            signs = new char[MOST];
            waiting = new int[MOST_WAITING / 4];
        }

        void await(int a, int b, int c, int d, int e) {
            waiting[0] = a;
            waiting[1] = b;
            waiting[2] = c;
            waiting[3] = d;
            waiting[4] = e;
        }

        int append(int n) {
            if (n < 0 || n > MOST_WAITING || n > MOST - length) {
                return NONE;
            }
            for (int k = 0; k < n; k++) {
                signs[length + k] = waitingByte(k);
            }
            length += n;
            Arrays.fill(waiting, 0);
            return length;
        }

        void clear() {
            length = 0;
        }

        int length() {
            return length;
        }

        char signAt(int k) {
            return k >= 0 && k < length ? signs[k] : 0;
        }

        private char waitingByte(int k) {
            if (k < 0 || k >= MOST_WAITING) {
                return 0;
            }
            return (char) ((waiting[k / 4] >>> (24 - 8 * (k % 4))) & 255);
        }
    }

    /** The words of the TEXT, one after the other. */
    private static final class Words {
        static final int END = 0;
        static final int NO_WORD = 1;
        static final int OPEN = 2;
        static final int CLOSE = 3;
        static final int QUOTE = 4;
        static final int DOT = 5;
        static final int NATURAL = 6;
        static final int SYMBOL = 7;

        private final Text text;
        private int next;
        private int start;
        private int kind;
        private long value;

        Words(Text text) {
            this.text = text;
        }

        void goToFront() {
            next = 0;
        }

        void goOn() {
            skipBlanks();
            start = next;
            kind = kindAt(start);
            if (kind == SYMBOL) {
                takeAtom();
            } else if (kind != END) {
                next++;
            }
        }

        int start() {
            return start;
        }

        int kind() {
            return kind;
        }

        /** An atom's value; NONE when the atom is too long or too great. */
        long value() {
            return value;
        }

        private void skipBlanks() {
            boolean inRemark = false;
            for (; next < text.length(); next++) {
                char sign = text.signAt(next);
                if (sign == '\n') {
                    inRemark = false;
                } else if (sign == ';') {
                    inRemark = true;
                } else if (sign != ' ' && !inRemark) {
                    return;
                }
            }
        }

        /** Every atom is told as a symbol here: its first character alone can't say. */
        private int kindAt(int place) {
            if (place >= text.length()) {
                return END;
            }
            char sign = text.signAt(place);
            switch (sign) {
                case '(':
                    return OPEN;
                case ')':
                    return CLOSE;
                case '\'':
                    return QUOTE;
                case '.':
                    return DOT;
                default:
                    return Signs.isOfAtom(sign) ? SYMBOL : NO_WORD;
            }
        }

        private void takeAtom() {
            boolean digitsAlone = true;
            for (; next < text.length() && Signs.isOfAtom(text.signAt(next)); next++) {
                digitsAlone = digitsAlone && Signs.isDigit(text.signAt(next));
            }
            kind = digitsAlone ? NATURAL : SYMBOL;
            value = digitsAlone ? naturalOf(start, next) : symbolOf(start, next);
        }

        private long naturalOf(int from, int to) {
            long n = 0;
            for (int k = from; k < to; k++) {
                int digit = text.signAt(k) - '0';
                if (n > (Store.MOST_NATURAL - digit) / 10) {
                    return NONE;
                }
                n = 10 * n + digit;
            }
            return n;
        }

        private long symbolOf(int from, int to) {
            if (to - from > Signs.MOST_IN_SYMBOL) {
                return NONE;
            }
            long code = 0;
            for (int k = from; k < to; k++) {
                code = Signs.withSign(code, text.signAt(k));
            }
            return code;
        }
    }

    /** Makes the TEXT's object, or finds the TEXT's first fault. */
    private static final class Reader {
        static final int NO_FAULT = 0;

        private static final int FAULT_NO_WORD = 1;
        private static final int FAULT_TOO_GREAT = 2;
        private static final int FAULT_CANT_STAND = 3;
        private static final int FAULT_TOO_DEEP = 4;
        private static final int FAULT_TOO_MANY = 5;

        private static final int MOST_WORDS = 1000;
        private static final int MOST_OPEN = 40;

        // What stands before the next word, of the TEXT as a whole (level 0) or of a ( or ' in it.
        private static final int TEXT_BEGUN = 0;
        private static final int TEXT_DONE = 1;
        private static final int QUOTE_BEGUN = 2;
        private static final int LIST_BEGUN = 3;
        private static final int LIST_FILLED = 4;
        private static final int LIST_DOTTED = 5;
        private static final int LIST_ENDED = 6;

        private final Text text;
        private final Store store;
        private final Words words;
        private final int[] stages;
        private final int[] bases;
        // The objects of all open lists, those of the outermost first.
        private final int[] objects;
        private int level;
        private int held;
        private int result;
        private int latestFault;
        private int latestFaultPlace;

        Reader(Text text, Store store) {
            this.text = text;
            this.store = store;
            words = new Words(text);
            stages = new int[1 + MOST_OPEN];
            bases = new int[1 + MOST_OPEN];
            objects = new int[MOST_WORDS];
            result = Store.NIL;
            latestFault = NO_FAULT;
            latestFaultPlace = NONE;
        }

        /** An atom makes itself and its list's pair, a ' two pairs, a ( its list's pair. */
        int mostNewObjects() {
            return 2 * Math.min(text.length(), MOST_WORDS);
        }

        int result() {
            return result;
        }

        int latestFault() {
            return latestFault;
        }

        int latestFaultPlace() {
            return latestFaultPlace;
        }

        int readText() {
            words.goToFront();
            level = 0;
            held = 0;
            stages[0] = TEXT_BEGUN;
            latestFault = NO_FAULT;
            for (int nth = 1; nth <= MOST_WORDS + 1; nth++) {
                words.goOn();
                latestFault = faultOf(words.kind(), nth);
                if (latestFault != NO_FAULT || words.kind() == Words.END) {
                    break;
                }
                takeWord();
            }
            latestFaultPlace = latestFault == NO_FAULT ? NONE : words.start();
            return latestFault;
        }

        /** The tests stand by the faults' numbers: at one place the least one counts. */
        private int faultOf(int kind, int nth) {
            if (kind == Words.NO_WORD) {
                return FAULT_NO_WORD;
            }
            if ((kind == Words.NATURAL || kind == Words.SYMBOL) && words.value() == NONE) {
                return FAULT_TOO_GREAT;
            }
            if (!canStand(kind)) {
                return FAULT_CANT_STAND;
            }
            if ((kind == Words.OPEN || kind == Words.QUOTE) && level >= MOST_OPEN) {
                return FAULT_TOO_DEEP;
            }
            return kind != Words.END && nth > MOST_WORDS ? FAULT_TOO_MANY : NO_FAULT;
        }

        private boolean canStand(int kind) {
            int stage = stage();
            switch (kind) {
                case Words.END:
                    return stage == TEXT_DONE;
                case Words.DOT:
                    return stage == LIST_FILLED;
                case Words.CLOSE:
                    return stage == LIST_BEGUN || stage == LIST_FILLED || stage == LIST_ENDED;
                default:
                    return stage != TEXT_DONE && stage != LIST_ENDED;
            }
        }

        private void takeWord() {
            switch (words.kind()) {
                case Words.OPEN:
                    open(LIST_BEGUN);
                    break;
                case Words.QUOTE:
                    open(QUOTE_BEGUN);
                    break;
                case Words.DOT:
                    setStage(LIST_DOTTED);
                    break;
                case Words.CLOSE:
                    placeObject(closeList());
                    break;
                case Words.NATURAL:
                    placeObject(store.naturalOf(words.value()));
                    break;
                default:
                    placeObject(store.symbolOf(words.value()));
                    break;
            }
        }

        private void open(int stage) {
            if (level < MOST_OPEN) {
                level++;
                stages[level] = stage;
                bases[level] = held;
            }
        }

        private int closeList() {
            int list = Store.NIL;
            if (stage() == LIST_ENDED && held > 0) {
                held--;
                list = objects[held];
            }
            for (int base = base(); held > base && held > 0; held--) {
                list = store.pairOf(objects[held - 1], list);
            }
            level = Math.max(0, level - 1);
            return list;
        }

        private void placeObject(int object) {
            int placed = object;
            for (; stage() == QUOTE_BEGUN && level > 0; level--) {
                placed = store.pairOf(Store.QUOTE, store.pairOf(placed, Store.NIL));
            }
            if (level == 0) {
                result = placed;
                setStage(TEXT_DONE);
                return;
            }
            setStage(stage() == LIST_DOTTED ? LIST_ENDED : LIST_FILLED);
            if (held < objects.length) {
                objects[held] = placed;
                held++;
            }
        }

        private int stage() {
            return isLevel() ? stages[level] : TEXT_DONE;
        }

        private void setStage(int stage) {
            if (isLevel()) {
                stages[level] = stage;
            }
        }

        private int base() {
            return isLevel() ? bases[level] : 0;
        }

        private boolean isLevel() {
            return level >= 0 && level <= MOST_OPEN;
        }
    }

    /** A row of characters that leaves out what would come behind its end. */
    private static final class Sheet {
        private final char[] signs;
        private int length;

        Sheet(int most) {
            signs = new char[Math.max(0, most)];
        }

        void clear() {
            length = 0;
        }

        int length() {
            return length;
        }

        boolean isFull() {
            return length >= signs.length;
        }

        void add(char sign) {
            if (length < signs.length) {
                signs[length] = sign;
                length++;
            }
        }

        int signAt(int k) {
            return k >= 0 && k < length ? signs[k] : NONE;
        }

        boolean isLowerThan(Sheet other) {
            for (int k = 0; k < signs.length; k++) {
                // NONE, behind a text's end, is lower than every character.
                int mine = signAt(k);
                int theirs = other.signAt(k);
                if (mine != theirs) {
                    return mine < theirs;
                }
            }
            return false;
        }
    }

    /** Tells objects on sheets. */
    private static final class Teller {
        // 2^62 - 1 has nineteen; a symbol has eleven.
        private static final int MOST_DIGITS = 19;

        private final Store store;
        // What is still to be told of each open list; each has cost a ( on the sheet.
        private final int[] rests;
        private int open;

        Teller(Store store) {
            this.store = store;
            rests = new int[MOST_TOLD];
        }

        void tellOn(Sheet sheet, int object) {
            sheet.clear();
            open = 0;
            int now = object;
            // Every step adds a character at least.
            for (int step = 0; step < MOST_TOLD && now != NONE && !sheet.isFull(); step++) {
                now = tellFront(sheet, now);
            }
        }

        /** Tells the object up to the next one that has to be told; NONE when there is none. */
        private int tellFront(Sheet sheet, int object) {
            int quoted = store.quotedIn(object);
            if (quoted != NONE) {
                sheet.add('\'');
                return quoted;
            }
            if (store.isPair(object) && open < rests.length) {
                sheet.add('(');
                rests[open] = store.secondOf(object);
                open++;
                return store.firstOf(object);
            }
            tellAtom(sheet, object);
            return goOnInLists(sheet);
        }

        private int goOnInLists(Sheet sheet) {
            for (; open > 0; open--) {
                int rest = rests[open - 1];
                if (store.isPair(rest)) {
                    sheet.add(' ');
                    rests[open - 1] = store.secondOf(rest);
                    return store.firstOf(rest);
                }
                if (rest != Store.NIL) {
                    sheet.add(' ');
                    sheet.add('.');
                    sheet.add(' ');
                    tellAtom(sheet, rest);
                }
                sheet.add(')');
            }
            return NONE;
        }

        private void tellAtom(Sheet sheet, int atom) {
            if (store.kindOf(atom) == Store.NATURAL) {
                tellDigits(sheet, store.valueOf(atom), Signs.OF_NATURALS);
            } else {
                tellDigits(sheet, store.valueOf(atom), Signs.OF_SYMBOLS);
            }
        }

        private static void tellDigits(Sheet sheet, long value, String signs) {
            int base = signs.length();
            if (base < 2) {
                return;
            }
            for (long unit = highestUnit(value, base); unit > 0; unit /= base) {
                sheet.add(signs.charAt((int) (value / unit % base)));
            }
        }

        /** The greatest power of the base that is not above the value, or 1. */
        private static long highestUnit(long value, int base) {
            long unit = 1;
            for (int k = 1; k < MOST_DIGITS && base > 0 && unit <= value / base; k++) {
                unit *= base;
            }
            return unit;
        }
    }
}
