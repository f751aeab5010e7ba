import java.util.ArrayList;
import java.util.Collections;
import java.util.Comparator;
import java.util.ConcurrentModificationException;
import java.util.HashMap;
import java.util.Iterator;
import java.util.LinkedHashMap;
import java.util.List;
import java.util.Map;
import java.util.NavigableMap;
import java.util.NoSuchElementException;
import java.util.TreeMap;

/** One of Java's own maps, or a part of one, or an iterator, that answers as the OBJECT beside it should. */
final class Twin {
    /** A key as Java's maps see it: its hash is h of the RULE. */
    record Key(int number, int rule) {
        @Override
        public boolean equals(Object other) {
            return other instanceof Key key && key.number == number;
        }

        @Override
        public int hashCode() {
            switch (rule) {
                case 0: return number;
                case 1: return Math.floorMod(number, 16);
                case 2: return 7;
                default: return number * -1640531527;
            }
        }
    }

    private static final class Limited extends LinkedHashMap<Key, Integer> {
        private static final long serialVersionUID = 1;
        private final int limit;

        Limited(int limit, boolean isByUse) {
            super(16, 0.75f, isByUse);
            this.limit = limit;
        }

        @Override
        protected boolean removeEldestEntry(Map.Entry<Key, Integer> first) {
            return limit > 0 && size() > limit;
        }
    }

    private final Map<Key, Integer> map;
    private final int rule;
    private final Iterator<Map.Entry<Key, Integer>> way;
    private Key passed;

    private Twin(Map<Key, Integer> map, int rule, Iterator<Map.Entry<Key, Integer>> way) {
        this.map = map;
        this.rule = rule;
        this.way = way;
    }

    static Twin made(int kind, int a, int b) {
        switch (kind) {
            case 0: return new Twin(new HashMap<>(a), b, null);
            case 1: return new Twin(new Limited(a, b == 1), 0, null);
            default: return new Twin(new TreeMap<>(inOrder(a)), 0, null);
        }
    }

    private static Comparator<Key> inOrder(int order) {
        switch (order) {
            case 0: return (x, y) -> Integer.compare(x.number, y.number);
            case 1: return (x, y) -> Integer.compare(y.number, x.number);
            case 2: return (x, y) -> {
                int bySize = Long.compare(Math.abs((long) x.number), Math.abs((long) y.number));
                return bySize != 0 ? bySize : Integer.compare(x.number, y.number);
            };
            default: return (x, y) -> Math.floorMod(x.number, 10) - Math.floorMod(y.number, 10);
        }
    }

    boolean isCursor() {
        return way != null;
    }

    boolean isCursorOf(Twin other) {
        return isCursor() && map == other.map;
    }

    boolean isHash() {
        return map instanceof HashMap && !isLinked();
    }

    private boolean isLinked() {
        return map instanceof LinkedHashMap;
    }

    boolean isSorted() {
        return map instanceof NavigableMap;
    }

    private boolean isPart() {
        return isSorted() && !(map instanceof TreeMap);
    }

    boolean isEmptyPart() {
        return isPart() && map.isEmpty();
    }

    private NavigableMap<Key, Integer> sorted() {
        return (NavigableMap<Key, Integer>) map;
    }

    boolean isBefore(int x, int y) {
        return sorted().comparator().compare(new Key(x, rule), new Key(y, rule)) < 0;
    }

    /** null if an end lies outside of the part that it would be a part of: Java refuses that, the document does not. */
    Twin part(int kind, int a, int b) {
        Key from = new Key(a, rule);
        Key to = new Key(b, rule);
        try {
            switch (kind) {
                case 1: return new Twin(sorted().subMap(from, true, to, false), rule, null);
                case 2: return new Twin(sorted().headMap(from, false), rule, null);
                case 3: return new Twin(sorted().tailMap(from, true), rule, null);
                default: return new Twin(sorted().descendingMap(), rule, null);
            }
        } catch (IllegalArgumentException e) {
            return null;
        }
    }

    Twin cursor() {
        return new Twin(map, rule, map.entrySet().iterator());
    }

    /** Java's iterators look for changes by others in these two ops alone. */
    String move(int op) {
        try {
            if (op == 0) {
                passed = way.next().getKey();
                return told(passed);
            }
            way.remove();
            return told(passed);
        } catch (NoSuchElementException e) {
            return "!NoSuchElementException";
        } catch (ConcurrentModificationException e) {
            return "!IllegalStateException";
        } catch (IllegalStateException e) {
            return "!IllegalStateException";
        }
    }

    String map(int op, int a, int b, Twin other) {
        try {
            if (op < 9) {
                return toldOfOne(op, new Key(a, rule), b);
            }
            if (op >= 10 && op <= 17 || op >= 21 && op <= 23) {
                return isSorted() ? toldSorted(op, new Key(a, rule)) : toldOfEnds(op);
            }
            return toldOfAll(op, a, other);
        } catch (NoSuchElementException e) {
            return "!NoSuchElementException";
        } catch (IllegalArgumentException e) {
            return "!IllegalArgumentException";
        } catch (UnsupportedOperationException e) {
            return "!UnsupportedOperationException";
        }
    }

    private static String told(Integer answer) {
        return answer == null ? "NONE" : answer.toString();
    }

    private static String told(Key key) {
        return key == null ? "NONE" : Integer.toString(key.number);
    }

    private String toldOfOne(int op, Key key, int b) {
        switch (op) {
            case 0: return told(map.put(key, b));
            case 1: return told(map.get(key));
            case 2: return told(map.remove(key));
            case 3: return told(map.containsKey(key) ? 1 : 0);
            case 4: return told(map.size());
            case 5: {
                int size = map.size();
                map.clear();
                return told(size);
            }
            case 6: return told(map.putIfAbsent(key, b));
            case 7: return told(map.replace(key, b));
            default: return told(putMore(key, b));
        }
    }

    private Integer putMore(Key key, int b) {
        // HashMap.merge lays a new key before the others of its BIN; in the document they stand in the order of coming.
        if (!map.containsKey(key)) {
            map.put(key, b);
            return b;
        }
        return map.merge(key, b, (x, y) -> x + y == 0 ? null : x + y);
    }

    private String toldOfEnds(int op) {
        if (!isLinked() || op < 10 || op > 13) {
            throw new UnsupportedOperationException();
        }
        List<Key> keys = new ArrayList<>(map.keySet());
        if (keys.isEmpty()) {
            throw new NoSuchElementException();
        }
        Key key = keys.get(op % 2 == 0 ? 0 : keys.size() - 1);
        if (op > 11) {
            map.remove(key);
        }
        return told(key);
    }

    private String toldSorted(int op, Key key) {
        NavigableMap<Key, Integer> all = sorted();
        switch (op) {
            case 10: return told(all.firstKey());
            case 11: return told(all.lastKey());
            case 12: return told(gone(all.firstKey()));
            case 13: return told(gone(all.lastKey()));
            case 14: return told(all.lowerKey(key));
            case 15: return told(all.floorKey(key));
            case 16: return told(all.ceilingKey(key));
            case 17: return told(all.higherKey(key));
            case 23: return told((int) all.keySet().stream().filter(k -> isBefore(k.number, key.number)).count());
            default: throw new UnsupportedOperationException();
        }
    }

    private Key gone(Key key) {
        map.remove(key);
        return key;
    }

    private String toldOfAll(int op, int a, Twin other) {
        switch (op) {
            case 9: return told(Collections.frequency(map.values(), a));
            case 18: return told(map.entrySet().stream().mapToInt(e -> e.getKey().number ^ e.getValue()).sum());
            case 19: return told(isSameAs(other) ? 1 : 0);
            case 20: return told(putAll(other));
            case 24:
                map.replaceAll((key, value) -> value + a);
                return told(map.size());
            default: {
                int size = map.size();
                map.values().removeIf(value -> value == a);
                return told(size - map.size());
            }
        }
    }

    /** The other's keys with the hashes that they have here. */
    private static Map<Key, Integer> asIn(Twin twin, Map<Key, Integer> map) {
        Map<Key, Integer> same = new LinkedHashMap<>();
        map.forEach((key, value) -> same.put(new Key(key.number, twin.rule), value));
        return same;
    }

    private boolean isSameAs(Twin other) {
        // A map by use would put those last for which it is asked; the document names other ops for that.
        Map<Key, Integer> asked = other.isLinked() ? new HashMap<>(other.map) : other.map;
        return asIn(other, map).equals(asked);
    }

    private int putAll(Twin other) {
        Map<Key, Integer> all = asIn(this, other.map);
        for (Key key : all.keySet()) {
            // Java would put those before the first that it refuses; a part of one key is refused just if that key is.
            if (isPart() && !map.containsKey(key)) {
                sorted().subMap(key, true, key, true);
            }
        }
        all.forEach(map::put);
        return all.size();
    }

    List<String> keysAndValues() {
        List<String> all = new ArrayList<>();
        map.forEach((key, value) -> all.add(key.number + " " + value));
        return all;
    }
}
