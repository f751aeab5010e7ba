import java.util.ArrayList;
import java.util.Collections;
import java.util.Comparator;
import java.util.LinkedHashMap;
import java.util.List;
import java.util.Map;
import java.util.NoSuchElementException;
import java.util.TreeMap;

/** A second KeyAtlas, written from the document with the Java library's maps, slow and plain, for ModelTest. */
final class Model {
    static final long NONE = 1L << 40;

    private final Thing[] things = new Thing[16];

    /** Any OBJECT. */
    private abstract static class Thing {
        int kind;
        Thing whole;
    }

    private abstract static class AnyMap extends Thing {
        /** Keys in order. */
        abstract List<Integer> keys();

        /** The VALUE, or null. */
        abstract Integer peek(int key);

        abstract void put(int key, int value);

        abstract void remove(int key);

        abstract void clear();

        abstract int changes();

        boolean takes(int key) {
            return true;
        }

        void use(int key) {
        }

        Comparator<Integer> order() {
            return null;
        }
    }

    private static final class Hash extends AnyMap {
        int capacity;
        int rule;
        int changes;
        List<LinkedHashMap<Integer, Integer>> bins = new ArrayList<>();
        List<Boolean> bushy = new ArrayList<>();

        int bin(int key) {
            int h = new int[] {key, Math.floorMod(key, 16), 7, key * -1640531527}[rule];
            return Math.floorMod(h ^ (h >>> 16), bins.size());
        }

        @Override
        List<Integer> keys() {
            List<Integer> all = new ArrayList<>();
            for (Map<Integer, Integer> bin : bins) {
                all.addAll(bin.keySet());
            }
            return all;
        }

        @Override
        Integer peek(int key) {
            return bins.isEmpty() ? null : bins.get(bin(key)).get(key);
        }

        @Override
        void put(int key, int value) {
            if (peek(key) != null) {
                bins.get(bin(key)).put(key, value);
                return;
            }
            if (bins.isEmpty()) {
                int table = 1;
                while (table < capacity) {
                    table *= 2;
                }
                widen(table);
            }
            int bin = bin(key);
            int held = bins.get(bin).size();
            bins.get(bin).put(key, value);
            changes++;
            if (held >= 8) {
                if (bins.size() < 64) {
                    twice();
                } else {
                    bushy.set(bin, true);
                }
            }
            if (keys().size() * 4 > bins.size() * 3) {
                twice();
            }
        }

        private void widen(int table) {
            while (bins.size() < table) {
                bins.add(new LinkedHashMap<>());
                bushy.add(false);
            }
        }

        private void twice() {
            List<LinkedHashMap<Integer, Integer>> oldBins = bins;
            List<Boolean> oldBushy = bushy;
            bins = new ArrayList<>();
            bushy = new ArrayList<>();
            widen(oldBins.size() * 2);
            for (LinkedHashMap<Integer, Integer> bin : oldBins) {
                bin.forEach((k, v) -> bins.get(bin(k)).put(k, v));
            }
            for (int i = 0; i < bins.size(); i++) {
                bushy.set(i, oldBushy.get(i % oldBins.size()) && bins.get(i).size() > 6);
            }
        }

        @Override
        void remove(int key) {
            int bin = bin(key);
            bins.get(bin).remove(key);
            changes++;
            if (bins.get(bin).size() <= 6) {
                bushy.set(bin, false);
            }
        }

        @Override
        void clear() {
            bins.forEach(Map::clear);
            Collections.fill(bushy, false);
            changes++;
        }

        @Override
        int changes() {
            return changes;
        }
    }

    private static final class Linked extends AnyMap {
        int limit;
        boolean byUse;
        int changes;
        LinkedHashMap<Integer, Integer> map = new LinkedHashMap<>();

        @Override
        List<Integer> keys() {
            return new ArrayList<>(map.keySet());
        }

        @Override
        Integer peek(int key) {
            return map.get(key);
        }

        @Override
        void put(int key, int value) {
            if (map.put(key, value) == null) {
                changes++;
                if (limit > 0 && map.size() > limit) {
                    remove(map.keySet().iterator().next());
                }
            }
        }

        @Override
        void use(int key) {
            List<Integer> before = keys();
            if (byUse && before.get(before.size() - 1) != key) {
                map.put(key, map.remove(key));
                changes++;
            }
        }

        @Override
        void remove(int key) {
            map.remove(key);
            changes++;
        }

        @Override
        void clear() {
            map.clear();
            changes++;
        }

        @Override
        int changes() {
            return changes;
        }
    }

    private static final class Tree extends AnyMap {
        int changes;
        TreeMap<Integer, Integer> map;

        Tree(int order) {
            List<Comparator<Integer>> all = List.of(Comparator.naturalOrder(), Comparator.reverseOrder(),
                    Comparator.comparing((Integer x) -> Math.abs(x.longValue())).thenComparing(Comparator.naturalOrder()),
                    Comparator.comparing((Integer x) -> (x % 10 + 10) % 10));
            map = new TreeMap<>(all.get(order));
        }

        @Override
        Comparator<Integer> order() {
            @SuppressWarnings("unchecked")
            Comparator<Integer> own = (Comparator<Integer>) map.comparator();
            return own;
        }

        @Override
        List<Integer> keys() {
            return new ArrayList<>(map.keySet());
        }

        @Override
        Integer peek(int key) {
            return map.get(key);
        }

        @Override
        void put(int key, int value) {
            if (map.put(key, value) == null) {
                changes++;
            }
        }

        @Override
        void remove(int key) {
            map.remove(key);
            changes++;
        }

        @Override
        void clear() {
            map.clear();
            changes++;
        }

        @Override
        int changes() {
            return changes;
        }
    }

    private static final class Part extends AnyMap {
        AnyMap of;
        int how;
        int a;
        int b;

        @Override
        boolean takes(int key) {
            int toA = of.order().compare(key, a);
            int toB = of.order().compare(key, b);
            boolean own = how == 1 ? toA >= 0 && toB < 0 : how == 2 ? toA < 0 : how != 3 || toA >= 0;
            return own && of.takes(key);
        }

        @Override
        Comparator<Integer> order() {
            return how == 4 ? of.order().reversed() : of.order();
        }

        @Override
        List<Integer> keys() {
            List<Integer> all = of.keys();
            all.removeIf(key -> !takes(key));
            all.sort(order());
            return all;
        }

        @Override
        Integer peek(int key) {
            return takes(key) ? of.peek(key) : null;
        }

        @Override
        void put(int key, int value) {
            of.put(key, value);
        }

        @Override
        void remove(int key) {
            of.remove(key);
        }

        private Tree tree() {
            return of instanceof Part part ? part.tree() : (Tree) of;
        }

        @Override
        void clear() {
            for (int key : keys()) {
                tree().map.remove(key);
            }
            tree().changes++;
        }

        @Override
        int changes() {
            return of.changes();
        }
    }

    private static final class Pointer extends Thing {
        AnyMap map;
        List<Integer> left;
        Integer passed;
        int seen;
    }

    long make(int kind, int a, int b) {
        if (kind < 0 || kind > 2) {
            throw new IllegalArgumentException();
        }
        if (kind == 0 && a < 0) {
            throw new NegativeArraySizeException();
        }
        int mostA = kind == 2 ? 3 : 1000;
        int mostB = kind == 0 ? 3 : 1;
        if (a < 0 || a > mostA || kind != 2 && (b < 0 || b > mostB)) {
            throw new IllegalArgumentException();
        }
        if (kind == 0) {
            Hash hash = new Hash();
            hash.capacity = a;
            hash.rule = b;
            return add(hash, 0, null);
        }
        if (kind == 1) {
            Linked linked = new Linked();
            linked.limit = a;
            linked.byUse = b == 1;
            return add(linked, 1, null);
        }
        return add(new Tree(a), 2, null);
    }

    private long add(Thing thing, int kind, Thing whole) {
        thing.kind = kind;
        thing.whole = whole;
        for (int i = 0; i < 16; i++) {
            if (things[i] == null) {
                things[i] = thing;
                return i;
            }
        }
        throw new IllegalStateException();
    }

    private Thing thing(int o) {
        if (o < 0 || o > 15 || things[o] == null) {
            throw new NoSuchElementException();
        }
        return things[o];
    }

    private AnyMap anyMap(Thing thing) {
        if (thing.kind == 4) {
            throw new ClassCastException();
        }
        return (AnyMap) thing;
    }

    long drop(int o) {
        Thing top = thing(o);
        int gone = 0;
        for (int i = 0; i < 16; i++) {
            Thing up = things[i];
            while (up != null && up != top) {
                up = up.whole;
            }
            if (up == top) {
                things[i] = null;
                gone++;
            }
        }
        return gone;
    }

    long view(int o, int how, int a, int b) {
        Thing thing = thing(o);
        if (thing.kind != 2 && thing.kind != 3) {
            throw new ClassCastException();
        }
        AnyMap of = (AnyMap) thing;
        if (how < 1 || how > 4 || how == 1 && of.order().compare(b, a) < 0) {
            throw new IllegalArgumentException();
        }
        Part part = new Part();
        part.of = of;
        part.how = how;
        part.a = a;
        part.b = b;
        return add(part, 3, of);
    }

    long cursor(int o) {
        Pointer pointer = new Pointer();
        pointer.map = anyMap(thing(o));
        pointer.left = pointer.map.keys();
        pointer.seen = pointer.map.changes();
        return add(pointer, 4, pointer.map);
    }

    long move(int c, int op, int a) {
        Thing thing = thing(c);
        if (thing.kind != 4) {
            throw new ClassCastException();
        }
        Pointer pointer = (Pointer) thing;
        if (op < 0 || op > 4) {
            throw new IllegalArgumentException();
        }
        if (pointer.seen != pointer.map.changes()) {
            throw new IllegalStateException();
        }
        if (op == 1) {
            return pointer.left.isEmpty() ? 0 : 1;
        }
        if (op == 0) {
            if (pointer.left.isEmpty()) {
                throw new NoSuchElementException();
            }
            pointer.passed = pointer.left.remove(0);
            return pointer.passed;
        }
        if (pointer.passed == null) {
            throw new IllegalStateException();
        }
        int key = pointer.passed;
        long value = pointer.map.peek(key);
        if (op == 2) {
            pointer.map.remove(key);
            pointer.seen = pointer.map.changes();
            pointer.passed = null;
            return key;
        }
        if (op == 3) {
            pointer.map.put(key, a);
        }
        return value;
    }

    long item(int o, int i, int part) {
        AnyMap map = anyMap(thing(o));
        if (part != 0 && part != 1) {
            throw new IllegalArgumentException();
        }
        List<Integer> keys = map.keys();
        if (i < 0 || i >= keys.size()) {
            throw new IndexOutOfBoundsException();
        }
        return part == 0 ? keys.get(i) : map.peek(keys.get(i));
    }

    long count(int what) {
        if (what == 0) {
            long there = 0;
            for (Thing thing : things) {
                there += thing == null ? 0 : 1;
            }
            return there;
        }
        if (what >= 10 && what <= 25) {
            return things[what - 10] == null ? -1 : things[what - 10].kind;
        }
        if (what >= 30 && what <= 45) {
            return things[what - 30] instanceof AnyMap map ? map.keys().size() : -1;
        }
        throw new IllegalArgumentException();
    }

    long map(int o, int op, int a, int b) {
        Thing first = thing(o);
        Thing second = op == 19 || op == 20 ? thing(b) : first;
        AnyMap map = anyMap(first);
        AnyMap other = anyMap(second);
        if (op < 0 || op > 25) {
            throw new IllegalArgumentException();
        }
        boolean sorted = map.kind >= 2;
        boolean sortedOnly = op >= 14 && op <= 17 || op == 23;
        if (op >= 10 && op <= 13 && map.kind == 0 || sortedOnly && !sorted || (op == 21 || op == 22) && map.kind != 0) {
            throw new UnsupportedOperationException();
        }
        if (op <= 8) {
            return keyOp(map, op, a, b);
        }
        if (op == 19) {
            return same(map, other) ? 1 : 0;
        }
        if (op == 20) {
            return putAll(map, other);
        }
        if (op == 21) {
            return ((Hash) map).bins.size();
        }
        if (op == 22) {
            return Collections.frequency(((Hash) map).bushy, true);
        }
        return sortedOnly ? nearest(map, op, a) : wholeOp(map, op, a);
    }

    private long put(AnyMap map, int key, int value) {
        Integer before = map.peek(key);
        if (before == null && !map.takes(key)) {
            throw new IllegalArgumentException();
        }
        map.put(key, value);
        if (before != null) {
            map.use(key);
        }
        return before == null ? NONE : before;
    }

    private long keyOp(AnyMap map, int op, int a, int b) {
        Integer value = map.peek(a);
        long before = value == null ? NONE : value;
        switch (op) {
            case 0:
                return put(map, a, b);
            case 1:
                if (value != null) {
                    map.use(a);
                }
                return before;
            case 2:
                if (value != null) {
                    map.remove(a);
                }
                return before;
            case 3:
                return value == null ? 0 : 1;
            case 4:
                return map.keys().size();
            case 5:
                int all = map.keys().size();
                map.clear();
                return all;
            case 6:
                return value == null ? put(map, a, b) : keyOp(map, 1, a, b);
            case 7:
                return value == null ? NONE : put(map, a, b);
            default:
                if (value != null && value + b == 0) {
                    map.remove(a);
                    return NONE;
                }
                int then = value == null ? b : value + b;
                put(map, a, then);
                return then;
        }
    }

    private boolean same(AnyMap map, AnyMap other) {
        List<Integer> keys = map.keys();
        boolean same = keys.size() == other.keys().size();
        for (int key : keys) {
            same = same && map.peek(key).equals(other.peek(key));
        }
        return same;
    }

    private long putAll(AnyMap map, AnyMap other) {
        if (map == other) {
            throw new IllegalArgumentException();
        }
        List<Integer> keys = other.keys();
        for (int key : keys) {
            if (map.peek(key) == null && !map.takes(key)) {
                throw new IllegalArgumentException();
            }
        }
        for (int key : keys) {
            put(map, key, other.peek(key));
        }
        return keys.size();
    }

    private long nearest(AnyMap map, int op, int a) {
        long before = NONE;
        long upTo = NONE;
        long from = NONE;
        long behind = NONE;
        int howManyBefore = 0;
        for (int key : map.keys()) {
            int compared = map.order().compare(key, a);
            before = compared < 0 ? key : before;
            upTo = compared <= 0 ? key : upTo;
            from = compared >= 0 && from == NONE ? key : from;
            behind = compared > 0 && behind == NONE ? key : behind;
            howManyBefore += compared < 0 ? 1 : 0;
        }
        return op == 23 ? howManyBefore : new long[] {before, upTo, from, behind}[op - 14];
    }

    private long wholeOp(AnyMap map, int op, int a) {
        List<Integer> keys = map.keys();
        if (op >= 10 && op <= 13) {
            if (keys.isEmpty()) {
                throw new NoSuchElementException();
            }
            int key = keys.get(op % 2 == 0 ? 0 : keys.size() - 1);
            if (op >= 12) {
                map.remove(key);
            }
            return key;
        }
        int with = 0;
        int sum = 0;
        for (int key : keys) {
            int value = map.peek(key);
            sum += key ^ value;
            with += value == a ? 1 : 0;
            if (op == 24) {
                map.put(key, value + a);
            }
            if (op == 25 && value == a) {
                map.remove(key);
            }
        }
        return op == 18 ? sum : op == 24 ? keys.size() : with;
    }
}
