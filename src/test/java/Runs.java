/**
 * Plays runs of calls on a new KeyAtlas. A line is a call with what is due: "make 0 0 0 = 0", "map 0 1 5 0 = NONE",
 * "drop 3 ! NoSuchElementException". Several calls may share a line, with ";" between them.
 */
final class Runs {
    static final long NONE = 1L << 40;

    private int calls;
    private int wrong;

    void play(String name, String script) {
        KeyAtlas atlas = new KeyAtlas();
        for (String line : script.split("[\n;]")) {
            String call = line.strip();
            if (!call.isEmpty()) {
                check(name, atlas, call);
            }
        }
    }

    void due(String what, Object got, Object want) {
        calls++;
        if (!want.equals(got)) {
            wrong++;
            System.out.println(what + " answered " + got + ", due is " + want);
        }
    }

    void end() {
        if (calls == 0) {
            wrong++;
        }
        if (wrong != 0) {
            System.out.println(wrong + " of " + calls + " answers are not as due");
            System.exit(1);
        }
    }

    private void check(String name, KeyAtlas atlas, String line) {
        boolean fails = line.contains("!");
        String[] sides = line.split("[=!]");
        String want = sides[1].strip();
        due(name + ": " + sides[0].strip(), answer(atlas, sides[0].strip().split(" +")), fails ? "!" + want : want);
    }

    static String answer(KeyAtlas atlas, String[] words) {
        int[] n = new int[words.length - 1];
        for (int i = 0; i < n.length; i++) {
            n[i] = number(words[i + 1]);
        }
        try {
            long answer = call(atlas, words[0], n);
            return answer == NONE ? "NONE" : Long.toString(answer);
        } catch (RuntimeException e) {
            return "!" + e.getClass().getSimpleName();
        }
    }

    private static int number(String word) {
        switch (word) {
            case "MIN": return Integer.MIN_VALUE;
            case "MAX": return Integer.MAX_VALUE;
            default: return Integer.parseInt(word);
        }
    }

    private static long call(KeyAtlas atlas, String name, int[] n) {
        switch (name) {
            case "make": return atlas.make(n[0], n[1], n[2]);
            case "drop": return atlas.drop(n[0]);
            case "map": return atlas.map(n[0], n[1], n[2], n[3]);
            case "view": return atlas.view(n[0], n[1], n[2], n[3]);
            case "cursor": return atlas.cursor(n[0]);
            case "move": return atlas.move(n[0], n[1], n[2]);
            case "item": return atlas.item(n[0], n[1], n[2]);
            case "count": return atlas.count(n[0]);
            default: throw new Error("no such call: " + name);
        }
    }
}
