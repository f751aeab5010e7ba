import java.util.LinkedHashSet;
import java.util.Set;

/** Tests that bear the words of the document's sentence that they hold. */
final class Sentences {
    private final Runs runs = new Runs();
    private final Set<String> quoted = new LinkedHashSet<>();
    private int cases;

    /** What: the case of the sentence that this run of calls tries. */
    void hold(String sentence, String what, String script) {
        note(sentence);
        runs.play(named(sentence, what), script);
    }

    /** For what can't be reached within the calls for which an object is used. */
    void holdLong(String sentence, String what, String script) {
        note(sentence);
        runs.playLong(named(sentence, what), script);
    }

    void due(String sentence, String what, Object got, Object want) {
        note(sentence);
        runs.due(named(sentence, what), got, want);
    }

    private void note(String sentence) {
        quoted.add(sentence);
        cases++;
    }

    void end() {
        runs.end();
        System.out.println(quoted.size() + " sentences hold in " + cases + " cases");
    }

    Set<String> quoted() {
        return quoted;
    }

    Runs runs() {
        return runs;
    }

    private static String named(String sentence, String what) {
        return "\"" + sentence + "\", " + what;
    }

    /** Keys from .. to - 1 come to OBJECT o, each with that VALUE. */
    static String puts(int o, int from, int to, int value) {
        StringBuilder script = new StringBuilder();
        for (int key = from; key < to; key++) {
            script.append("map " + o + " 0 " + key + " " + value + " = NONE\n");
        }
        return script.toString();
    }

    /** Sixteen OBJECTS: TREE 0, its SUBMAP 1, HASH 2, LINKED 3, CURSOR 4 of the TREE, then TREES. */
    static String sixteen() {
        StringBuilder script = new StringBuilder("make 2 0 0 = 0; view 0 4 0 0 = 1; make 0 0 0 = 2; make 1 0 0 = 3; "
                + "cursor 0 = 4\n");
        for (int o = 5; o < 16; o++) {
            script.append("make 2 0 0 = " + o + "\n");
        }
        return script.toString();
    }

    /** Ways to a new, empty MAP with the number 0, beside a TREE with the number 1; a SUBMAP is of that one. */
    static String[] everyMap() {
        return new String[] {
            "make 0 0 0 = 0; make 2 0 0 = 1\n",
            "make 0 64 2 = 0; make 2 0 0 = 1\n",
            "make 0 3 3 = 0; make 2 0 0 = 1\n",
            "make 1 0 0 = 0; make 2 0 0 = 1\n",
            "make 1 0 1 = 0; make 2 0 0 = 1\n",
            "make 1 9 1 = 0; make 2 0 0 = 1\n",
            "make 2 0 0 = 0; make 2 0 0 = 1\n",
            "make 2 1 0 = 0; make 2 0 0 = 1\n",
            "make 2 2 0 = 0; make 2 0 0 = 1\n",
            "make 0 0 0 = 0; make 2 0 0 = 1; drop 0 = 1; view 1 4 0 0 = 0\n",
            "make 0 0 0 = 0; make 2 2 0 = 1; drop 0 = 1; view 1 3 0 0 = 0\n",
        };
    }
}
