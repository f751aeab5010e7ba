import java.util.Arrays;
import java.util.NoSuchElementException;

/**
 * An atlas of keys: maps by tables that are doubled, by links in the order of coming or use, by balanced trees in four
 * orders, parts of these from key to key and turned round, parts of parts, and cursors that are stale when others have
 * changed what they go over.
 */
public final class KeyAtlas {
    private static final int PLACES = 16;
    private static final int MOST_KEYS = 1000;
    private static final int MOST_CAPACITY = 1000;
    private static final int FIRST_LENGTH = 16;
    private static final int MOST_HALVINGS = 32;
    private static final long NONE = 1L << 40;

    private static final int HASH = 0;
    private static final int LINKED = 1;
    private static final int TREE = 2;
    private static final int SUBMAP = 3;
    private static final int CURSOR = 4;
    private static final int NO_WHOLE = -1;

    private static final int SAME_AS = 19;
    private static final int PUT_ALL = 20;
    private static final int LAST_MAP_OP = 25;
    private static final int LAST_MOVE_OP = 4;

    private static final int FROM_TO = 1;
    private static final int BEFORE = 2;
    private static final int FROM = 3;
    private static final int TURNED = 4;

    private final Body[] bodies;

    public KeyAtlas() {
        bodies = new Body[PLACES];
    }

    public int make(int kind, int a, int b)
            throws IllegalArgumentException, IllegalStateException, NegativeArraySizeException {
        if (kind < HASH || kind > TREE) {
            throw new IllegalArgumentException("no such kind");
        }
        if (kind == HASH && a < 0) {
            throw new NegativeArraySizeException("capacity below 0");
        }
        if (!areInRange(kind, a, b)) {
            throw new IllegalArgumentException("a or b out of range");
        }
        return settle(newMap(kind, a, b));
    }

    public int drop(int o) throws NoSuchElementException {
        bodyAt(o);
        // All are marked before the first goes: the way from a part to its whole leads over others that go.
        boolean[] goes = new boolean[PLACES];
        for (int i = 0; i < PLACES; i++) {
            goes[i] = isPartOf(i, o);
        }
        int gone = 0;
        for (int i = 0; i < PLACES; i++) {
            if (goes[i]) {
                bodies[i] = null;
                gone++;
            }
        }
        return gone;
    }

    public long map(int o, int op, int a, int b) throws NoSuchElementException, ClassCastException,
            IllegalArgumentException, IllegalStateException, UnsupportedOperationException {
        Body body = bodyAt(o);
        boolean namesTwo = op == SAME_AS || op == PUT_ALL;
        Body second = namesTwo ? bodyAt(b) : body;
        Keyed keyed = asMap(body);
        Keyed other = asMap(second);
        if (op < 0 || op > LAST_MAP_OP) {
            throw new IllegalArgumentException("no such op");
        }
        if (!hasOp(keyed.kind, op)) {
            throw new UnsupportedOperationException("op is not for this kind");
        }
        switch (op) {
            case 0: return keyed.put(a, b);
            case 1: return keyed.get(a);
            case 2: return keyed.takeOut(a);
            case 3: return keyed.find(a) >= 0 ? 1 : 0;
            case 4: return keyed.size();
            case 5: return keyed.takeAllOut();
            case 6: return keyed.putIfAbsent(a, b);
            case 7: return keyed.putIfThere(a, b);
            case 8: return keyed.putMore(a, b);
            case 9: return keyed.howManyWith(a);
            case 10: return keyed.endKey(false, false);
            case 11: return keyed.endKey(true, false);
            case 12: return keyed.endKey(false, true);
            case 13: return keyed.endKey(true, true);
            case 14: return keyed.keyOrNone(keyed.howManyBefore(a) - 1);
            case 15: return keyed.keyOrNone(keyed.howManyUpTo(a) - 1);
            case 16: return keyed.keyOrNone(keyed.howManyBefore(a));
            case 17: return keyed.keyOrNone(keyed.howManyUpTo(a));
            case 18: return keyed.sum();
            case SAME_AS: return keyed.isSameAs(other) ? 1 : 0;
            case PUT_ALL: return keyed.putAll(other);
            case 21: return keyed.tableLength();
            case 22: return keyed.howManyBushy();
            case 23: return keyed.howManyBefore(a);
            case 24: return keyed.raiseValues(a);
            default: return keyed.takeOutWith(a);
        }
    }

    public int view(int o, int kind, int a, int b) throws NoSuchElementException, ClassCastException,
            IllegalArgumentException, IllegalStateException {
        Sorted whole = asSorted(bodyAt(o));
        if (kind < FROM_TO || kind > TURNED) {
            throw new IllegalArgumentException("no such kind of view");
        }
        if (kind == FROM_TO && whole.isBefore(b, a)) {
            throw new IllegalArgumentException("b before a");
        }
        return settle(whole.part(o, kind, a, b));
    }

    public int cursor(int o) throws NoSuchElementException, ClassCastException, IllegalStateException {
        return settle(new Cursor(o, asMap(bodyAt(o))));
    }

    public long move(int c, int op, int a) throws NoSuchElementException, ClassCastException,
            IllegalArgumentException, IllegalStateException {
        Cursor cursor = asCursor(bodyAt(c));
        if (op < 0 || op > LAST_MOVE_OP) {
            throw new IllegalArgumentException("no such op");
        }
        if (cursor.isStale()) {
            throw new IllegalStateException("stale");
        }
        switch (op) {
            case 0: return cursor.pass();
            case 1: return cursor.hasNext() ? 1 : 0;
            case 2: return cursor.takePassedOut();
            case 3: return cursor.setPassedValue(a);
            default: return cursor.passedValue();
        }
    }

    public long item(int o, int i, int part) throws NoSuchElementException, ClassCastException,
            IllegalArgumentException, IndexOutOfBoundsException {
        Keyed keyed = asMap(bodyAt(o));
        if (part < 0 || part > 1) {
            throw new IllegalArgumentException("no such part");
        }
        if (i < 0 || i >= keyed.size()) {
            throw new IndexOutOfBoundsException("no such key");
        }
        int place = keyed.placeOf(i);
        return part == 0 ? keyed.rows.key(place) : keyed.rows.value(place);
    }

    public int count(int what) throws IllegalArgumentException {
        if (what == 0) {
            return howManyBodies();
        }
        if (what >= 10 && what < 10 + PLACES) {
            return kindOf(what - 10);
        }
        if (what >= 30 && what < 30 + PLACES) {
            return sizeOf(what - 30);
        }
        throw new IllegalArgumentException("nothing is counted by that number");
    }

    private static boolean areInRange(int kind, int a, int b) {
        switch (kind) {
            case HASH: return a >= 0 && a <= MOST_CAPACITY && b >= 0 && b <= 3;
            case LINKED: return a >= 0 && a <= MOST_KEYS && b >= 0 && b <= 1;
            default: return a >= 0 && a <= 3;
        }
    }

    private static Keyed newMap(int kind, int a, int b) {
        switch (kind) {
            case HASH: return new Hash(a, b);
            case LINKED: return new Linked(a, b == 1);
            default: return new Sorted(a);
        }
    }

    private static boolean hasOp(int kind, int op) {
        switch (op) {
            case 10: case 11: case 12: case 13: return kind != HASH;
            case 14: case 15: case 16: case 17: case 23: return kind == TREE || kind == SUBMAP;
            case 21: case 22: return kind == HASH;
            default: return true;
        }
    }

    private Body bodyAt(int o) {
        Body body = bodyOrNull(o);
        if (body == null) {
            throw new NoSuchElementException("no such object");
        }
        return body;
    }

    private Body bodyOrNull(int o) {
        return o >= 0 && o < bodies.length ? bodies[o] : null;
    }

    private static Keyed asMap(Body body) {
        if (body instanceof Keyed keyed) {
            return keyed;
        }
        throw new ClassCastException("not a map");
    }

    private static Sorted asSorted(Body body) {
        if (body instanceof Sorted sorted) {
            return sorted;
        }
        throw new ClassCastException("not a tree or submap");
    }

    private static Cursor asCursor(Body body) {
        if (body instanceof Cursor cursor) {
            return cursor;
        }
        throw new ClassCastException("not a cursor");
    }

    private int settle(Body body) {
        for (int i = 0; i < bodies.length; i++) {
            if (bodies[i] == null) {
                bodies[i] = body;
                return i;
            }
        }
        throw new IllegalStateException("full");
    }

    private boolean isPartOf(int i, int o) {
        int at = i;
        for (int step = 0; step < PLACES && at != o; step++) {
            Body body = bodyOrNull(at);
            if (body == null) {
                return false;
            }
            at = body.whole;
        }
        return at == o;
    }

    private int howManyBodies() {
        int there = 0;
        for (int i = 0; i < bodies.length; i++) {
            if (bodies[i] != null) {
                there++;
            }
        }
        return there;
    }

    private int kindOf(int o) {
        Body body = bodyOrNull(o);
        return body == null ? -1 : body.kind;
    }

    private int sizeOf(int o) {
        return bodyOrNull(o) instanceof Keyed keyed ? keyed.size() : -1;
    }

    /** An OBJECT, with the number of the one that it is a part of. */
    private abstract static class Body {
        final int kind;
        final int whole;

        Body(int kind, int whole) {
            this.kind = kind;
            this.whole = whole;
        }
    }

    /** Keys and VALUES side by side, in the order of the MAP (of the TREE, for a SUBMAP), with the count of CHANGES. */
    private static final class Rows {
        private int[] keys = new int[FIRST_LENGTH];
        private int[] values = new int[FIRST_LENGTH];
        private int size;
        private int changes;

        int size() {
            return size;
        }

        int changes() {
            return changes;
        }

        int key(int place) {
            return place >= 0 && place < size ? keys[place] : 0;
        }

        int value(int place) {
            return place >= 0 && place < size ? values[place] : 0;
        }

        void setValue(int place, int value) {
            if (place >= 0 && place < size) {
                values[place] = value;
            }
        }

        void insert(int place, int key, int value) {
            if (place < 0 || place > size || size >= MOST_KEYS) {
                return;
            }
            if (size >= keys.length) {
                keys = Arrays.copyOf(keys, size * 2);
                values = Arrays.copyOf(values, size * 2);
            }
            System.arraycopy(keys, place, keys, place + 1, size - place);
            System.arraycopy(values, place, values, place + 1, size - place);
            keys[place] = key;
            values[place] = value;
            size++;
            changes++;
        }

        /** One CHANGE however many go, and one too if none does, as op 5 counts once. */
        void remove(int from, int to) {
            if (from < 0 || to < from || to > size) {
                return;
            }
            System.arraycopy(keys, to, keys, from, size - to);
            System.arraycopy(values, to, values, from, size - to);
            size -= to - from;
            changes++;
        }

        void moveToEnd(int place) {
            if (place < 0 || place >= size - 1) {
                return;
            }
            int key = keys[place];
            int value = values[place];
            System.arraycopy(keys, place + 1, keys, place, size - 1 - place);
            System.arraycopy(values, place + 1, values, place, size - 1 - place);
            keys[size - 1] = key;
            values[size - 1] = value;
            changes++;
        }

        /** Marked ones go behind all others; within both groups the order stays. */
        void moveBehind(boolean[] marked) {
            int[] newKeys = new int[keys.length];
            int[] newValues = new int[keys.length];
            int to = 0;
            for (int round = 0; round < 2; round++) {
                for (int i = 0; i < size && i < marked.length; i++) {
                    if (marked[i] == (round == 1) && to < newKeys.length) {
                        newKeys[to] = keys[i];
                        newValues[to] = values[i];
                        to++;
                    }
                }
            }
            keys = newKeys;
            values = newValues;
        }
    }

    /** A MAP: what its KIND decides is told by the methods that the classes below override. */
    private abstract static class Keyed extends Body {
        final Rows rows;

        Keyed(int kind, int whole, Rows rows) {
            super(kind, whole);
            this.rows = rows;
        }

        /** The key's place in the rows, -1 without. */
        abstract int find(int key);

        /** Takes in a key that is not there and for which there is room. */
        abstract void enter(int key, int value);

        int size() {
            return rows.size();
        }

        /** The place in the rows of key i of its order. */
        int placeOf(int i) {
            return i;
        }

        boolean mayHold(int key) {
            return true;
        }

        boolean hasRoomFor(int more) {
            return rows.size() + more <= MOST_KEYS;
        }

        /** For a KIND whose order is by use; the others stay as they are. */
        void noteUse(int place) {
        }

        void leave(int place) {
            rows.remove(place, place + 1);
        }

        void leaveAll() {
            rows.remove(0, rows.size());
        }

        int howManyBefore(int key) {
            return 0;
        }

        int howManyUpTo(int key) {
            return 0;
        }

        int tableLength() {
            return 0;
        }

        int howManyBushy() {
            return 0;
        }

        private void come(int key, int value) {
            if (!mayHold(key)) {
                throw new IllegalArgumentException("key is not of this part");
            }
            if (!hasRoomFor(1)) {
                throw new IllegalStateException("full");
            }
            enter(key, value);
        }

        long put(int key, int value) {
            int place = find(key);
            if (place < 0) {
                come(key, value);
                return NONE;
            }
            return replace(place, value);
        }

        private long replace(int place, int value) {
            int before = rows.value(place);
            rows.setValue(place, value);
            noteUse(place);
            return before;
        }

        long get(int key) {
            int place = find(key);
            if (place < 0) {
                return NONE;
            }
            int value = rows.value(place);
            noteUse(place);
            return value;
        }

        long takeOut(int key) {
            int place = find(key);
            if (place < 0) {
                return NONE;
            }
            int value = rows.value(place);
            leave(place);
            return value;
        }

        long takeAllOut() {
            int gone = size();
            leaveAll();
            return gone;
        }

        long putIfAbsent(int key, int value) {
            int place = find(key);
            if (place < 0) {
                come(key, value);
                return NONE;
            }
            return replace(place, rows.value(place));
        }

        long putIfThere(int key, int value) {
            int place = find(key);
            return place < 0 ? NONE : replace(place, value);
        }

        long putMore(int key, int more) {
            int place = find(key);
            if (place < 0) {
                come(key, more);
                return more;
            }
            int value = rows.value(place) + more;
            if (value == 0) {
                leave(place);
                return NONE;
            }
            replace(place, value);
            return value;
        }

        long howManyWith(int value) {
            int with = 0;
            int size = size();
            for (int i = 0; i < size; i++) {
                if (rows.value(placeOf(i)) == value) {
                    with++;
                }
            }
            return with;
        }

        long endKey(boolean last, boolean goes) {
            int size = size();
            if (size == 0) {
                throw new NoSuchElementException("empty");
            }
            int place = placeOf(last ? size - 1 : 0);
            int key = rows.key(place);
            if (goes) {
                leave(place);
            }
            return key;
        }

        long keyOrNone(int i) {
            return i >= 0 && i < size() ? rows.key(placeOf(i)) : NONE;
        }

        long sum() {
            int sum = 0;
            int size = size();
            for (int i = 0; i < size; i++) {
                int place = placeOf(i);
                sum += rows.key(place) ^ rows.value(place);
            }
            return sum;
        }

        boolean isSameAs(Keyed other) {
            int size = size();
            if (other.size() != size) {
                return false;
            }
            for (int i = 0; i < size; i++) {
                int place = placeOf(i);
                // The other one is asked for our keys, so it decides which keys are the same.
                int there = other.find(rows.key(place));
                if (there < 0 || other.rows.value(there) != rows.value(place)) {
                    return false;
                }
            }
            return true;
        }

        long putAll(Keyed other) {
            if (other == this) {
                throw new IllegalArgumentException("a map into itself");
            }
            if (!hasRoomFor(newKeysOf(other))) {
                throw new IllegalStateException("full");
            }
            int size = other.size();
            for (int i = 0; i < size; i++) {
                int from = other.placeOf(i);
                int key = other.rows.key(from);
                int value = other.rows.value(from);
                int place = find(key);
                if (place < 0) {
                    enter(key, value);
                } else {
                    replace(place, value);
                }
            }
            return size;
        }

        private int newKeysOf(Keyed other) {
            int newKeys = 0;
            int size = other.size();
            for (int i = 0; i < size; i++) {
                int key = other.rows.key(other.placeOf(i));
                if (find(key) < 0) {
                    newKeys++;
                    if (!mayHold(key)) {
                        throw new IllegalArgumentException("key is not of this part");
                    }
                }
            }
            return newKeys;
        }

        long raiseValues(int more) {
            int size = size();
            for (int i = 0; i < size; i++) {
                int place = placeOf(i);
                rows.setValue(place, rows.value(place) + more);
            }
            return size;
        }

        long takeOutWith(int value) {
            int gone = 0;
            // From the last to the first, so that those still to be seen keep their numbers.
            for (int i = size() - 1; i >= 0; i--) {
                int place = placeOf(i);
                if (rows.value(place) == value) {
                    leave(place);
                    gone++;
                }
            }
            return gone;
        }
    }

    /** Its rows stand in the order of the BINS, so that a BIN is a stretch of them and needs no list of its own. */
    private static final class Hash extends Keyed {
        private static final int CROWD = 8;
        private static final int SPARSE = 6;
        private static final int LEAST_BUSHY_TABLE = 64;
        /** No run comes near it: 1000 keys have a TABLE of 2048 at most. */
        private static final int FAR_TABLE = 1 << 20;

        private final int capacity;
        private final int rule;
        private int table;
        private boolean[] bushy = new boolean[0];

        Hash(int capacity, int rule) {
            super(HASH, NO_WHOLE, new Rows());
            this.capacity = capacity;
            this.rule = rule;
        }

        private int binOf(int key) {
            int h = rule == 0 ? key : rule == 1 ? key & 15 : rule == 2 ? 7 : key * -1640531527;
            return (h ^ (h >>> 16)) & (table - 1);
        }

        /** How many keys stand in BINS before this one. */
        private int startOf(int bin) {
            int from = 0;
            int to = rows.size();
            for (int step = 0; step < MOST_HALVINGS && from < to; step++) {
                int middle = (from + to) / 2;
                if (binOf(rows.key(middle)) < bin) {
                    from = middle + 1;
                } else {
                    to = middle;
                }
            }
            return from;
        }

        private int howManyIn(int bin) {
            return startOf(bin + 1) - startOf(bin);
        }

        @Override
        int find(int key) {
            if (table == 0) {
                return -1;
            }
            int bin = binOf(key);
            int end = startOf(bin + 1);
            for (int place = startOf(bin); place < end; place++) {
                if (rows.key(place) == key) {
                    return place;
                }
            }
            return -1;
        }

        @Override
        void enter(int key, int value) {
            if (table == 0) {
                layFirstTable();
            }
            int bin = binOf(key);
            boolean isCrowded = howManyIn(bin) >= CROWD;
            rows.insert(startOf(bin + 1), key, value);
            if (isCrowded && table < LEAST_BUSHY_TABLE) {
                doubleTable();
            } else if (isCrowded) {
                setBushy(bin, true);
            }
            if (rows.size() * 4 > table * 3) {
                doubleTable();
            }
        }

        private void layFirstTable() {
            table = 1;
            for (int step = 0; step < MOST_HALVINGS && table < capacity; step++) {
                table *= 2;
            }
            bushy = new boolean[table];
        }

        private void doubleTable() {
            int half = table;
            if (half < 1 || half >= FAR_TABLE) {
                return;
            }
            boolean[] wasBushy = bushy;
            table = half * 2;
            bushy = new boolean[table];
            int[] held = new int[table];
            boolean[] goesUp = new boolean[rows.size()];
            for (int i = 0; i < goesUp.length; i++) {
                int bin = binOf(rows.key(i));
                if (bin >= 0 && bin < held.length) {
                    held[bin]++;
                }
                goesUp[i] = bin >= half;
            }
            // A BIN's keys go to the BIN of the same number or to that plus half, so two groups give the new order.
            rows.moveBehind(goesUp);
            for (int bin = 0; bin < half && bin < wasBushy.length; bin++) {
                bushy[bin] = wasBushy[bin] && held[bin] > SPARSE;
                bushy[bin + half] = wasBushy[bin] && held[bin + half] > SPARSE;
            }
        }

        private void setBushy(int bin, boolean is) {
            if (bin >= 0 && bin < bushy.length) {
                bushy[bin] = is;
            }
        }

        @Override
        void leave(int place) {
            int bin = binOf(rows.key(place));
            super.leave(place);
            if (howManyIn(bin) <= SPARSE) {
                setBushy(bin, false);
            }
        }

        @Override
        void leaveAll() {
            super.leaveAll();
            for (int bin = 0; bin < bushy.length; bin++) {
                bushy[bin] = false;
            }
        }

        @Override
        int tableLength() {
            return table;
        }

        @Override
        int howManyBushy() {
            int are = 0;
            for (int bin = 0; bin < bushy.length; bin++) {
                if (bushy[bin]) {
                    are++;
                }
            }
            return are;
        }
    }

    private static final class Linked extends Keyed {
        private final int limit;
        private final boolean isByUse;

        Linked(int limit, boolean isByUse) {
            super(LINKED, NO_WHOLE, new Rows());
            this.limit = limit;
            this.isByUse = isByUse;
        }

        @Override
        int find(int key) {
            int size = rows.size();
            for (int place = 0; place < size; place++) {
                if (rows.key(place) == key) {
                    return place;
                }
            }
            return -1;
        }

        @Override
        boolean hasRoomFor(int more) {
            return limit > 0 || super.hasRoomFor(more);
        }

        @Override
        void enter(int key, int value) {
            // The first one goes before the new one comes, so that the rows never hold more than the limit.
            if (limit > 0 && rows.size() >= limit) {
                leave(0);
            }
            rows.insert(rows.size(), key, value);
        }

        @Override
        void noteUse(int place) {
            if (isByUse) {
                rows.moveToEnd(place);
            }
        }
    }

    /** A TREE, or a SUBMAP: then those of its TREE's keys whose ranks are at least low and below high. */
    private static final class Sorted extends Keyed {
        private static final int BY_LAST_DIGIT = 3;
        private static final long NO_LOW = Long.MIN_VALUE;
        private static final long NO_HIGH = Long.MAX_VALUE;

        private final int order;
        private final boolean isTurned;
        private final long low;
        private final long high;

        Sorted(int order) {
            super(TREE, NO_WHOLE, new Rows());
            this.order = order;
            this.isTurned = false;
            this.low = NO_LOW;
            this.high = NO_HIGH;
        }

        Sorted(int number, Sorted whole, boolean isTurned, long low, long high) {
            super(SUBMAP, number, whole.rows);
            this.order = whole.order;
            this.isTurned = isTurned;
            this.low = low;
            this.high = high;
        }

        Sorted part(int number, int kind, int a, int b) {
            long from = kind == FROM_TO || kind == FROM ? edge(a) : NO_LOW;
            long to = kind == FROM_TO ? edge(b) : kind == BEFORE ? edge(a) : NO_HIGH;
            if (isTurned) {
                long turnedFrom = from;
                from = to == NO_HIGH ? NO_LOW : to;
                to = turnedFrom == NO_LOW ? NO_HIGH : turnedFrom;
            }
            long newLow = Math.max(low, from);
            // A part of a part may lie outside of it: then it is empty, but its end is never before its start.
            long newHigh = Math.max(newLow, Math.min(high, to));
            return new Sorted(number, this, isTurned != (kind == TURNED), newLow, newHigh);
        }

        /**
         * Rises as keys follow one another in the TREE's ORDER, whether this one is turned or not. It is even, so that
         * the odd number above it stands behind all keys that are alike and before the next ones.
         */
        private long rank(int key) {
            switch (order) {
                case 0: return 2L * key;
                case 1: return -2L * key;
                case 2: return 4L * Math.abs((long) key) + (key > 0 ? 2 : 0);
                default: return 2L * Math.floorMod(key, 10);
            }
        }

        /** Where the key and those behind it, in this one's order, are cut from those before it. */
        private long edge(int key) {
            return isTurned ? rank(key) + 1 : rank(key);
        }

        boolean isBefore(int x, int y) {
            return isTurned ? rank(x) > rank(y) : rank(x) < rank(y);
        }

        private int howManyBelow(long rank) {
            int from = 0;
            int to = rows.size();
            for (int step = 0; step < MOST_HALVINGS && from < to; step++) {
                int middle = (from + to) / 2;
                if (rank(rows.key(middle)) < rank) {
                    from = middle + 1;
                } else {
                    to = middle;
                }
            }
            return from;
        }

        private int start() {
            return low == NO_LOW ? 0 : howManyBelow(low);
        }

        private int end() {
            return high == NO_HIGH ? rows.size() : howManyBelow(high);
        }

        @Override
        int size() {
            return end() - start();
        }

        @Override
        int placeOf(int i) {
            return isTurned ? end() - 1 - i : start() + i;
        }

        @Override
        boolean mayHold(int key) {
            return rank(key) >= low && rank(key) < high;
        }

        @Override
        boolean hasRoomFor(int more) {
            // By the last digit there are at most ten that are not alike, so they are never too many.
            return order == BY_LAST_DIGIT || super.hasRoomFor(more);
        }

        @Override
        int find(int key) {
            int place = howManyBelow(rank(key));
            boolean isThere = place < rows.size() && rank(rows.key(place)) == rank(key);
            return isThere && mayHold(key) ? place : -1;
        }

        @Override
        void enter(int key, int value) {
            rows.insert(howManyBelow(rank(key)), key, value);
        }

        @Override
        void leaveAll() {
            rows.remove(start(), end());
        }

        @Override
        int howManyBefore(int key) {
            return isTurned ? howManyFrom(rank(key) + 1) : size() - howManyFrom(rank(key));
        }

        @Override
        int howManyUpTo(int key) {
            return isTurned ? howManyFrom(rank(key)) : size() - howManyFrom(rank(key) + 1);
        }

        private int howManyFrom(long rank) {
            int end = end();
            return end - Math.max(start(), Math.min(end, howManyBelow(rank)));
        }
    }

    private static final class Cursor extends Body {
        private static final int NOTHING = -1;

        private final Keyed keyed;
        private int next;
        private int passed;
        private int seenChanges;

        Cursor(int whole, Keyed keyed) {
            super(CURSOR, whole);
            this.keyed = keyed;
            this.passed = NOTHING;
            this.seenChanges = keyed.rows.changes();
        }

        boolean isStale() {
            return seenChanges != keyed.rows.changes();
        }

        boolean hasNext() {
            return next < keyed.size();
        }

        long pass() {
            if (!hasNext()) {
                throw new NoSuchElementException("none is next");
            }
            passed = next;
            next++;
            return keyed.rows.key(keyed.placeOf(passed));
        }

        private void needPassed() {
            if (passed == NOTHING) {
                throw new IllegalStateException("none is passed");
            }
        }

        long takePassedOut() {
            needPassed();
            int place = keyed.placeOf(passed);
            int key = keyed.rows.key(place);
            keyed.leave(place);
            next = passed;
            passed = NOTHING;
            seenChanges = keyed.rows.changes();
            return key;
        }

        long setPassedValue(int value) {
            needPassed();
            int place = keyed.placeOf(passed);
            int before = keyed.rows.value(place);
            keyed.rows.setValue(place, value);
            return before;
        }

        long passedValue() {
            needPassed();
            return keyed.rows.value(keyed.placeOf(passed));
        }
    }
}
