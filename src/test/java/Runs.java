import java.util.ArrayList;
import java.util.List;

/**
 * Plays runs of calls on a new KeyAtlas. A line is a call with what is due: "make 0 0 0 = 0", "map 0 1 5 0 = NONE",
 * "drop 3 ! NoSuchElement" (the name of the exception, with or without "Exception"). "keys 0 = 1 2 3" asks item for all
 * keys of OBJECT 0 in its order, "values 0 = .." for their VALUES; "none" stands for no key at all. Several calls may
 * share a line, with ";" between them.
 */
final class Runs {
    static final long NONE = 1L << 40;
    static final int MOST_CALLS = 512;

    private int answers;
    private int wrong;
    private int made;

    /** A run within the calls for which an object is used. */
    void play(String name, String script) {
        List<String> calls = calls(script);
        playOnce(name, calls, MOST_CALLS);
        playWithoutThrows(name, calls, MOST_CALLS);
    }

    /** For what can't be reached within the calls for which an object is used. */
    void playLong(String name, String script) {
        List<String> calls = calls(script);
        playOnce(name, calls, Integer.MAX_VALUE);
        playWithoutThrows(name, calls, Integer.MAX_VALUE);
    }

    void due(String what, Object got, Object want) {
        answers++;
        if (!want.equals(got)) {
            wrong++;
            System.out.println(what + " answered " + got + ", due is " + want);
        }
    }

    void end() {
        if (answers == 0) {
            wrong++;
        }
        if (wrong != 0) {
            System.out.println(wrong + " of " + answers + " answers are not as due");
            System.exit(1);
        }
    }

    private static List<String> calls(String script) {
        List<String> calls = new ArrayList<>();
        for (String line : script.split("[\n;]")) {
            if (!line.isBlank()) {
                calls.add(line.strip());
            }
        }
        return calls;
    }

    private void playOnce(String name, List<String> calls, int most) {
        KeyAtlas atlas = new KeyAtlas();
        made = 0;
        for (String call : calls) {
            check(name, atlas, call);
        }
        due(name + ": at most " + most + " calls", made <= most, true);
    }

    /** A call that throws changes nothing, so that the other answers are the same without it. */
    private void playWithoutThrows(String name, List<String> calls, int most) {
        List<String> others = new ArrayList<>(calls);
        others.removeIf(call -> call.contains("!"));
        if (others.size() < calls.size() && !others.isEmpty()) {
            playOnce(name + " (without the calls that throw)", others, most);
        }
    }

    private void check(String name, KeyAtlas atlas, String line) {
        String[] sides = line.split("[=!]");
        String what = name + ": " + sides[0].strip();
        String[] words = sides[0].strip().split(" +");
        String want = sides[1].strip();
        if (line.contains("!")) {
            want = "!" + (want.endsWith("Exception") ? want : want + "Exception");
        }
        due(what, answer(atlas, words), want);
    }

    private String answer(KeyAtlas atlas, String[] words) {
        switch (words[0]) {
            case "keys": return row(atlas, number(words[1]), 0);
            case "values": return row(atlas, number(words[1]), 1);
            default:
                made++;
                return told(atlas, words);
        }
    }

    private String row(KeyAtlas atlas, int o, int part) {
        List<String> row = new ArrayList<>();
        int size = atlas.count(30 + o);
        for (int i = 0; i < size; i++) {
            row.add(Long.toString(atlas.item(o, i, part)));
        }
        made += 1 + size;
        return row.isEmpty() ? "none" : String.join(" ", row);
    }

    static String told(KeyAtlas atlas, String[] words) {
        int[] n = new int[words.length - 1];
        for (int i = 0; i < n.length; i++) {
            n[i] = number(words[i + 1]);
        }
        try {
            long answer = call(atlas, words[0], n);
            return answer == NONE ? "NONE" : Long.toString(answer);
        } catch (RuntimeException e) {
            return "!" + e.getClass().getSimpleName();
        }
    }

    private static int number(String word) {
        switch (word) {
            case "MIN": return Integer.MIN_VALUE;
            case "MAX": return Integer.MAX_VALUE;
            default: return Integer.parseInt(word);
        }
    }

    private static long call(KeyAtlas atlas, String name, int[] n) {
        switch (name) {
            case "make": return atlas.make(n[0], n[1], n[2]);
            case "drop": return atlas.drop(n[0]);
            case "map": return atlas.map(n[0], n[1], n[2], n[3]);
            case "view": return atlas.view(n[0], n[1], n[2], n[3]);
            case "cursor": return atlas.cursor(n[0]);
            case "move": return atlas.move(n[0], n[1], n[2]);
            case "item": return atlas.item(n[0], n[1], n[2]);
            case "count": return atlas.count(n[0]);
            default: throw new Error("no such call: " + name);
        }
    }
}
