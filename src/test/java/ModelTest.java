import java.util.Map;
import java.util.TreeMap;

/** All promises at once: runs of mixed calls, the same each time, answered by KeyAtlas and by the Model. */
final class ModelTest {
    private static final int RUNS = 4000;
    private static final int[] EDGES = {Integer.MIN_VALUE, Integer.MIN_VALUE
            + 1, Integer.MAX_VALUE, 65536, -65536, 1 << 20};

    private final Map<String, Integer> answered = new TreeMap<>();
    private long seed;
    private int style;
    private int newCursor;
    private int movesLeft;
    private int made;
    private KeyAtlas atlas;
    private Model model;

    public static void main(String[] args) {
        ModelTest test = new ModelTest();
        for (int run = 0; run < RUNS; run++) {
            test.play(run);
        }
        test.checkThatAllWasTried();
    }

    private int below(int bound) {
        seed = seed * 6364136223846793005L + 1442695040888963407L;
        return (int) ((seed >>> 33) % bound);
    }

    private void play(int run) {
        seed = run * 1000003L + 17;
        below(2);
        style = run % 6;
        movesLeft = 0;
        atlas = new KeyAtlas();
        model = new Model();
        made = 0;
        // At its end all that is there is looked at once, within the calls for which an object is used.
        for (int call = 0; call < Runs.MOST_CALLS && made + callsForAll() < Runs.MOST_CALLS; call++) {
            check(run, nextCall());
        }
        checkAll(run);
    }

    /** Style 0 to 2: few keys; 3: many; 4, 5: keys that share BINS of a HASH. */
    private int key() {
        if (below(40) == 0) {
            return EDGES[below(EDGES.length)];
        }
        switch (style) {
            case 3: return below(600) - 300;
            case 4: return below(40) * 64 + (below(8) == 0 ? below(64) : 0);
            case 5: return below(3) == 0 ? below(300) : below(60) * 128 + below(2) * 64;
            default: return below(30) - 15;
        }
    }

    private int value() {
        return below(20) == 0 ? EDGES[below(EDGES.length)] : below(7) - 3;
    }

    /** Mostly one of the KINDS from least to most, now and then any number. */
    private int object(int least, int most) {
        if (below(25) == 0) {
            return below(20) - 2;
        }
        int found = 0;
        int from = below(16);
        for (int i = 0; i < 16; i++) {
            int o = (from + i) % 16;
            long kind = model.count(10 + o);
            if (kind >= least && kind <= most) {
                found = o;
                if (below(2) == 0) {
                    return found;
                }
            }
        }
        return found;
    }

    private String nextCall() {
        if (movesLeft > 0 && below(6) != 0) {
            movesLeft--;
            return "move " + newCursor + " " + (below(2) == 0 ? 0 : below(5)) + " " + value();
        }
        int dice = below(100);
        if (dice < (style >= 3 ? 2 : 6)) {
            return makeCall();
        }
        if (dice < (style >= 3 ? 3 : 8)) {
            return "drop " + object(0, 4);
        }
        if (dice < 70) {
            return mapCall();
        }
        if (dice < 76) {
            return "view " + object(below(20) == 0 ? 0 : 2, 3) + " " + (below(12) == 0 ? below(8) - 1 : 1 + below(4))
                    + " " + key() + " " + key();
        }
        if (dice < 80) {
            return "cursor " + object(0, 3);
        }
        if (dice < 94) {
            return "move " + object(4, 4) + " " + (below(3) == 0 ? below(7) - 1 : below(3) == 0 ? 2 : 0) + " "
                    + value();
        }
        return dice < 98 ? "item " + object(0, 3) + " " + (below(12) - 1) + " "
                + (below(12) == 0 ? below(5) - 1 : below(2))
                : "count " + (below(50) - 1);
    }

    private String makeCall() {
        int kind = style >= 4 ? 0 : below(20) == 0 ? below(7) - 2 : below(3);
        int a = below(15) == 0 ? below(1200) - 100 : kind == 2 ? below(4) : kind == 1 ? below(6) : below(2) * 64;
        int b = below(15) == 0 ? below(8) - 2 : kind == 0 ? (style >= 4 ? below(2) * 3 % 2 : below(4)) : below(2);
        return "make " + kind + " " + a + " " + b;
    }

    private String mapCall() {
        int op = below(30) == 0 ? below(40) - 6 : below(style >= 3 ? 3 : 5) != 0 ? below(9) : below(26);
        if (op == 5 && below(4) != 0) {
            op = 0;
        }
        if (style >= 3 && op < 9 && below(2) == 0) {
            op = 0;
        }
        boolean byValue = op == 9 || op == 24 || op == 25;
        int b = op == 19 || op == 20 ? object(0, 3) : value();
        return "map " + object(below(2) * 2, 3) + " " + op + " " + (byValue ? value() : key()) + " " + b;
    }

    private void check(int run, String line) {
        made++;
        String[] words = line.split(" ");
        String got = Runs.told(atlas, words);
        String want = modelAnswer(words);
        if (!got.equals(want)) {
            System.out.println("run " + run + ", call " + made + ": " + line + " answered " + got + ", due is " + want);
            System.exit(1);
        }
        if (words[0].equals("cursor") && !want.startsWith("!")) {
            // Moved at once, for it is STALE soon.
            newCursor = Integer.parseInt(want);
            movesLeft = below(12);
        }
        String name = words[0].equals("map") || words[0].equals("move") ? words[0] + " " + words[2] : words[0];
        answered.merge(want.startsWith("!") ? words[0] + want : name, 1, Integer::sum);
    }

    private int callsForAll() {
        int calls = 0;
        for (int o = 0; o < 16; o++) {
            calls += 4 + 2 * Math.max(0, (int) model.count(30 + o));
        }
        return calls;
    }

    private void checkAll(int run) {
        for (int o = 0; o < 16; o++) {
            check(run, "count " + (10 + o));
            check(run, "count " + (30 + o));
            long size = model.count(30 + o);
            for (int i = 0; i < size; i++) {
                check(run, "item " + o + " " + i + " 0");
                check(run, "item " + o + " " + i + " 1");
            }
            if (model.count(10 + o) == 0) {
                check(run, "map " + o + " 21 0 0");
                check(run, "map " + o + " 22 0 0");
                answered.merge(model.map(o, 22, 0, 0) > 0 ? "a BUSHY BIN" : "no BUSHY BIN", 1, Integer::sum);
            }
        }
    }

    private String modelAnswer(String[] words) {
        int[] n = new int[4];
        for (int i = 1; i < words.length; i++) {
            n[i - 1] = Integer.parseInt(words[i]);
        }
        try {
            long answer = modelCall(words[0], n);
            return answer == Model.NONE ? "NONE" : Long.toString(answer);
        } catch (RuntimeException e) {
            return "!" + e.getClass().getSimpleName();
        }
    }

    private long modelCall(String name, int[] n) {
        switch (name) {
            case "make": return model.make(n[0], n[1], n[2]);
            case "drop": return model.drop(n[0]);
            case "map": return model.map(n[0], n[1], n[2], n[3]);
            case "view": return model.view(n[0], n[1], n[2], n[3]);
            case "cursor": return model.cursor(n[0]);
            case "move": return model.move(n[0], n[1], n[2]);
            case "item": return model.item(n[0], n[1], n[2]);
            default: return model.count(n[0]);
        }
    }

    /** So that the runs do not come to test nothing unseen. */
    private void checkThatAllWasTried() {
        StringBuilder names = new StringBuilder("make,drop,view,cursor,item,count,a BUSHY BIN,make!IllegalStateException,"
                + "map!IllegalArgumentException,map!ClassCastException,map!UnsupportedOperationException,"
                + "move!IllegalStateException,move!NoSuchElementException,item!IndexOutOfBoundsException,"
                + "view!IllegalArgumentException,view!ClassCastException,make!NegativeArraySizeException");
        for (int op = 0; op <= 25; op++) {
            names.append(",map " + op);
        }
        for (int op = 0; op <= 4; op++) {
            names.append(",move " + op);
        }
        for (String name : names.toString().split(",")) {
            if (answered.getOrDefault(name, 0) < 100) {
                System.out.println("the runs hardly try this: " + name);
                System.exit(1);
            }
        }
    }
}
