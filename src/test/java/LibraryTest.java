import java.util.ArrayList;
import java.util.Arrays;
import java.util.Collections;
import java.util.List;
import java.util.Map;
import java.util.TreeMap;

/**
 * Most of what the document tells of its MAPS is what Java's own maps do: runs of mixed calls, the same each time,
 * answered by KeyAtlas and by Java's HashMap, LinkedHashMap, TreeMap, its parts and their iterators. Where the document
 * asks for something else, the call is left out here, with the reason beside it, and left to the other tests.
 */
final class LibraryTest {
    private static final int RUNS = 2000;
    private static final int PLACES = 16;
    private static final int LEAST_TRIES = 20;

    private final Twin[] twins = new Twin[PLACES];
    /** A HASH that had a BUSHY BIN: Java puts another key first there, so that its order says nothing any more. */
    private final boolean[] hadBushy = new boolean[PLACES];
    private final Map<String, Integer> tries = new TreeMap<>();
    private KeyAtlas atlas;
    private long seed;
    private int run;
    private int made;

    public static void main(String[] args) {
        LibraryTest test = new LibraryTest();
        for (int run = 0; run < RUNS; run++) {
            test.play(run);
        }
        test.checkThatAllWasTried();
    }

    private int below(int bound) {
        seed = seed * 6364136223846793005L + 1442695040888963407L;
        return (int) ((seed >>> 33) % bound);
    }

    private int key() {
        switch (below(12)) {
            case 0: return Integer.MIN_VALUE + below(2);
            case 1: return Integer.MAX_VALUE - below(2);
            case 2: return below(4) * 64;
            default: return below(60) - 20;
        }
    }

    private void play(int run) {
        this.run = run;
        seed = run * 7919L + 5;
        atlas = new KeyAtlas();
        made = 0;
        Arrays.fill(twins, null);
        Arrays.fill(hadBushy, false);
        for (int first = 1 + below(3); first > 0; first--) {
            make();
        }
        // No call here makes more than three calls of the object.
        while (made + callsForAll() + 3 <= Runs.MOST_CALLS) {
            next();
        }
        for (int o = 0; o < PLACES; o++) {
            if (isMap(o)) {
                compareAll(o);
            }
        }
    }

    private boolean isMap(int o) {
        return twins[o] != null && !twins[o].isCursor();
    }

    private int callsForAll() {
        int calls = 0;
        for (int o = 0; o < PLACES; o++) {
            calls += isMap(o) ? 2 * twins[o].keysAndValues().size() : 0;
        }
        // A call may bring twice as many keys as there are.
        return 2 * calls + 2;
    }

    private void next() {
        int o = below(PLACES);
        if (twins[o] == null) {
            open(below(PLACES));
        } else if (isMap(o)) {
            compareMap(o);
        } else {
            compareMove(o);
        }
    }

    private void make() {
        int kind = below(3);
        int a = kind == 2 ? below(4) : kind == 1 ? below(2) * below(9) : below(3) == 0 ? below(70) : 0;
        int b = kind == 0 ? below(4) : below(2);
        int number = Integer.parseInt(told("make", kind, a, b));
        twins[number] = Twin.made(kind, a, b);
        hadBushy[number] = false;
    }

    /** Now and then a new part or CURSOR of o. */
    private void open(int o) {
        if (!isMap(o) || below(12) != 0) {
            return;
        }
        if (!twins[o].isSorted() || below(2) == 0) {
            int number = Integer.parseInt(told("cursor", o));
            twins[number] = twins[o].cursor();
            hadBushy[number] = hadBushy[o];
            return;
        }
        int kind = 1 + below(4);
        int a = key();
        int b = key();
        if (kind == 1 && twins[o].isBefore(b, a)) {
            compare("view 1", told("view", o, kind, a, b), "!IllegalArgumentException");
            return;
        }
        Twin part = twins[o].part(kind, a, b);
        if (part != null) {
            twins[Integer.parseInt(told("view", o, kind, a, b))] = part;
        }
    }

    private void compareMove(int c) {
        if (hadBushy[c]) {
            drop(c);
            return;
        }
        int op = below(4) == 0 ? 2 : 0;
        String due = twins[c].move(op);
        String got = told("move", c, op, 0);
        // Some of Java's iterators look for their end first, the document for changes by others.
        if (due.equals("!NoSuchElementException") && got.equals("!IllegalStateException")) {
            due = got;
        }
        compare("move " + op, got, due);
        if (op == 0 && due.startsWith("!")) {
            drop(c);
        }
    }

    private void drop(int c) {
        compare("drop", told("drop", c), "1");
        twins[c] = null;
    }

    private void compareMap(int o) {
        int op = below(3) == 0 ? below(26) : below(9);
        // A part of a TreeMap that is empty has no change by clear, unlike a whole one; the document counts op 5 once.
        if (op == 5 && (twins[o].isEmptyPart() || below(4) != 0)) {
            op = 0;
        }
        boolean namesTwo = op == 19 || op == 20;
        int a = op == 9 || op == 24 || op == 25 ? below(7) - 3 : key();
        int b = namesTwo ? below(PLACES) : below(7) - 3;
        // Java's own TABLE and BUSHY BINS can't be asked for, and a map into itself is no fault for it.
        if (twins[o].isHash() && (op == 21 || op == 22) || namesTwo && (!isMap(b) || b == o || hadBushy[b])) {
            return;
        }
        String due = twins[o].map(op, a, b, namesTwo ? twins[b] : null);
        compare("map " + op, told("map", o, op, a, b), due);
        if (twins[o].isHash() && !told("map", o, 22, 0, 0).equals("0")) {
            noteBushy(o);
        }
        compareOne(o);
    }

    private void noteBushy(int o) {
        hadBushy[o] = true;
        for (int c = 0; c < PLACES; c++) {
            if (twins[c] != null && twins[c].isCursorOf(twins[o])) {
                hadBushy[c] = true;
            }
        }
    }

    private void compareOne(int o) {
        List<String> due = twins[o].keysAndValues();
        int i = below(due.size() + 1);
        if (i == due.size()) {
            compare("size", told("count", 30 + o), Integer.toString(i));
        } else if (!hadBushy[o]) {
            compare("key", told("item", o, i, 0), due.get(i).split(" ")[0]);
        }
    }

    private void compareAll(int o) {
        List<String> due = twins[o].keysAndValues();
        List<String> got = new ArrayList<>();
        for (int i = 0; i < due.size(); i++) {
            got.add(told("item", o, i, 0) + " " + told("item", o, i, 1));
        }
        if (hadBushy[o]) {
            Collections.sort(due);
            Collections.sort(got);
        }
        compare("all keys and VALUES", got.toString(), due.toString());
    }

    private String told(String call, int... n) {
        made++;
        String[] words = new String[n.length + 1];
        words[0] = call;
        for (int i = 0; i < n.length; i++) {
            words[i + 1] = Integer.toString(n[i]);
        }
        return Runs.told(atlas, words);
    }

    private void compare(String call, String got, String due) {
        tries.merge(call + (due.startsWith("!") ? " " + due : ""), 1, Integer::sum);
        if (!got.equals(due)) {
            System.out.println("run " + run + ": " + call + " answered " + got + ", Java's own map " + due);
            System.exit(1);
        }
    }

    private void checkThatAllWasTried() {
        List<String> due = new ArrayList<>(List.of("drop", "size", "key", "move 0", "move 0 !IllegalStateException",
                "move 0 !NoSuchElementException", "move 2", "move 2 !IllegalStateException",
                "view 1 !IllegalArgumentException", "map 0 !IllegalArgumentException",
                "map 6 !IllegalArgumentException", "map 8 !IllegalArgumentException", "map 20 !IllegalArgumentException"));
        for (int op = 0; op <= 25; op++) {
            if (op >= 10 && op <= 17 || op >= 21 && op <= 23) {
                due.add("map " + op + " !UnsupportedOperationException");
            }
            if (op >= 10 && op <= 13) {
                due.add("map " + op + " !NoSuchElementException");
            }
            if (op < 21 || op > 22) {
                due.add("map " + op);
            }
        }
        due.removeIf(call -> tries.getOrDefault(call, 0) >= LEAST_TRIES);
        if (!due.isEmpty()) {
            System.out.println("tried too seldom: " + due);
            System.exit(1);
        }
    }
}
