/** Promise 4: the ops that every MAP has, and what is thrown in which order. */
final class MapOpsTest {
    private static final String[] KINDS = {"make 0 0 0", "make 0 3 2", "make 1 0 0", "make 1 9 1", "make 2 0 0", "make 2 2 0"};

    public static void main(String[] args) {
        Runs runs = new Runs();
        for (String make : KINDS) {
            onEveryKind(runs, make, make + " = 0\n", "");
        }
        onEveryKind(runs, "a SUBMAP", "make 2 1 0 = 0; view 0 4 0 0 = 1; drop 0 = 2; make 0 0 0 = 0; make 2 1 0 = 1\n"
                + "drop 0 = 1; view 1 4 0 0 = 0\n", "x");
        twoMaps(runs);
        order(runs);
        runs.end();
    }

    private static void onEveryKind(Runs runs, String name, String make, String isPart) {
        runs.play(name + ": put, get, go", make + """
                map 0 0 5 50 = NONE; map 0 0 5 51 = 50; map 0 1 5 0 = 51; map 0 1 6 0 = NONE; map 0 3 5 0 = 1
                map 0 3 6 0 = 0; map 0 0 MIN -1 = NONE; map 0 0 MAX MIN = NONE; map 0 1 MAX 0 = -2147483648
                map 0 4 0 0 = 3; map 0 2 5 0 = 51; map 0 2 5 0 = NONE; map 0 4 0 0 = 2; map 0 5 0 0 = 2
                map 0 5 0 0 = 0; map 0 4 0 0 = 0; map 0 1 MIN 0 = NONE
                """);
        runs.play(name + ": 6 and 7", make + """
                map 0 6 1 10 = NONE; map 0 6 1 11 = 10; map 0 1 1 0 = 10; map 0 7 1 12 = 10; map 0 1 1 0 = 12
                map 0 7 2 20 = NONE; map 0 3 2 0 = 0; map 0 4 0 0 = 1
                """);
        runs.play(name + ": 8", make + """
                map 0 8 1 10 = 10; map 0 8 1 5 = 15; map 0 1 1 0 = 15; map 0 8 1 -15 = NONE; map 0 3 1 0 = 0
                map 0 8 2 0 = 0; map 0 3 2 0 = 1; map 0 8 2 0 = NONE; map 0 3 2 0 = 0
                map 0 8 3 MAX = 2147483647; map 0 8 3 1 = -2147483648; map 0 8 3 MIN = NONE; map 0 4 0 0 = 0
                """);
        runs.play(name + ": 9, 18, 24, 25", make + """
                map 0 18 0 0 = 0; map 0 24 1 0 = 0; map 0 25 0 0 = 0; map 0 9 0 0 = 0
                map 0 0 1 7 = NONE; map 0 0 2 7 = NONE; map 0 0 3 8 = NONE; map 0 0 -4 MAX = NONE
                map 0 9 7 0 = 2; map 0 9 9 0 = 0; map 0 18 0 0 = -2147483623
                map 0 24 1 0 = 4; map 0 1 1 0 = 8; map 0 1 3 0 = 9; map 0 1 -4 0 = -2147483648; map 0 9 8 0 = 2
                map 0 25 8 0 = 2; map 0 4 0 0 = 2; map 0 3 1 0 = 0; map 0 3 2 0 = 0; map 0 3 3 0 = 1; map 0 25 8 0 = 0
                map 0 25 MIN 0 = 1; map 0 25 9 0 = 1; map 0 4 0 0 = 0
                """);
        String cursorNumber = isPart.isEmpty() ? "1" : "2";
        String[] changing = {"map 0 0 9 1 = NONE", "map 0 2 1 0 = 5", "map 0 5 0 0 = 2", "map 0 6 9 1 = NONE",
            "map 0 8 9 1 = 1", "map 0 8 1 -5 = NONE", "map 0 25 6 0 = 1"};
        for (String call : changing) {
            runs.play(name + ": a CHANGE by " + call, make + "map 0 0 1 5 = NONE; map 0 0 2 6 = NONE; cursor 0 = "
                    + cursorNumber + "; move " + cursorNumber + " 1 0 = 1\n" + call + "\nmove " + cursorNumber
                    + " 1 0 ! IllegalStateException");
        }
        String[] keeping = {"map 0 0 2 9 = 6", "map 0 1 9 0 = NONE", "map 0 2 9 0 = NONE", "map 0 3 1 0 = 1",
            "map 0 4 0 0 = 2", "map 0 6 2 1 = 6", "map 0 7 9 1 = NONE", "map 0 7 2 1 = 6", "map 0 8 2 1 = 7",
            "map 0 9 5 0 = 1", "map 0 18 0 0 = 8", "map 0 19 0 0 = 1", "map 0 24 1 0 = 2", "map 0 25 9 0 = 0",
            "map 0 20 0 0 ! IllegalArgumentException", "map 0 26 0 0 ! IllegalArgumentException", "item 0 0 0 = 1"};
        for (String call : keeping) {
            if (call.startsWith("item") && (name.startsWith("make 0") || !isPart.isEmpty())) {
                continue;
            }
            runs.play(name + ": no CHANGE by " + call, make + "map 0 0 1 5 = NONE; map 0 0 2 6 = NONE; cursor 0 = "
                    + cursorNumber + "\n" + call + "\nmove " + cursorNumber + " 1 0 = 1");
        }
        runs.play(name + ": op 5 is a CHANGE of an empty one too", make + "cursor 0 = " + cursorNumber
                + "; map 0 5 0 0 = 0; move " + cursorNumber + " 1 0 ! IllegalStateException");
    }

    private static void twoMaps(Runs runs) {
        runs.play("19: size, keys, VALUES", """
                make 0 0 0 = 0; make 1 0 1 = 1; map 0 19 0 1 = 1; map 0 0 1 10 = NONE; map 0 19 0 1 = 0; map 1 19 0 0 = 0
                map 1 0 1 10 = NONE; map 0 19 0 1 = 1; map 1 19 0 0 = 1; map 1 0 1 11 = 10; map 0 19 0 1 = 0
                map 1 0 1 10 = 11; map 0 0 2 20 = NONE; map 1 0 3 20 = NONE; map 0 19 0 1 = 0; map 1 19 0 0 = 0
                map 0 19 0 0 = 1; map 1 19 0 1 = 1
                """);
        runs.play("19: b decides which keys are the same", """
                make 0 0 0 = 0; make 2 3 0 = 1; map 0 0 3 5 = NONE; map 1 0 13 5 = NONE; map 0 19 0 1 = 1; map 1 19 0 0 = 0
                """);
        runs.play("19: a SUBMAP has its own keys alone", """
                make 2 0 0 = 0; map 0 0 1 10 = NONE; map 0 0 2 20 = NONE; view 0 2 2 0 = 1; view 0 4 0 0 = 2
                map 0 19 0 1 = 0; map 1 19 0 0 = 0; map 0 19 0 2 = 1; map 2 19 0 0 = 1; view 0 3 2 0 = 3; map 1 19 0 3 = 0
                make 0 0 0 = 4; map 4 0 1 10 = NONE; map 4 19 0 1 = 1; map 1 19 0 4 = 1
                """);
        runs.play("20: in its order, by op 0", """
                make 2 1 0 = 0; make 1 0 0 = 1; map 0 0 1 10 = NONE; map 0 0 2 20 = NONE; map 0 0 3 30 = NONE
                map 1 0 2 0 = NONE; map 1 20 0 0 = 3; item 1 0 0 = 2; item 1 1 0 = 3; item 1 2 0 = 1; item 1 0 1 = 20
                map 0 4 0 0 = 3; map 0 20 0 1 = 3; map 1 20 0 1 ! IllegalArgumentException; map 1 4 0 0 = 3
                """);
        runs.play("20: into a HASH and an ORDER with alike ones", """
                make 2 0 0 = 0; map 0 0 3 30 = NONE; map 0 0 13 31 = NONE; map 0 0 4 40 = NONE; make 0 0 0 = 1
                map 1 20 0 0 = 3; map 1 21 0 0 = 4; make 2 3 0 = 2; map 2 20 0 0 = 3; map 2 4 0 0 = 2; item 2 0 0 = 3
                item 2 0 1 = 31; item 2 1 0 = 4; item 2 1 1 = 40
                """);
        runs.play("20: none comes if one may not", """
                make 2 0 0 = 0; view 0 2 10 0 = 1; make 1 0 0 = 2; map 2 0 1 10 = NONE; map 2 0 10 11 = NONE
                map 2 0 2 20 = NONE; cursor 1 = 3; map 1 20 0 2 ! IllegalArgumentException; map 1 4 0 0 = 0
                map 0 4 0 0 = 0; move 3 1 0 = 0; map 0 0 10 5 = NONE; map 1 20 0 2 ! IllegalArgumentException
                map 0 1 10 0 = 5; map 2 2 10 0 = 11; map 1 20 0 2 = 2; map 1 4 0 0 = 2; map 0 4 0 0 = 3
                """);
        runs.play("20: a TREE and its parts", """
                make 2 0 0 = 0; map 0 0 1 10 = NONE; map 0 0 2 20 = NONE; view 0 2 2 0 = 1; view 0 4 0 0 = 2; cursor 0 = 3
                map 0 20 0 1 = 1; map 0 20 0 2 = 2; map 2 20 0 0 = 2; map 1 20 0 0 ! IllegalArgumentException
                map 2 20 0 2 ! IllegalArgumentException; move 3 0 0 = 1
                """);
    }

    private static void order(Runs runs) {
        runs.play("what is thrown, in which order", """
                make 0 0 0 = 0; cursor 0 = 1; make 2 0 0 = 2; cursor 2 = 3
                map 9 0 0 0 ! NoSuchElementException; map 9 99 0 0 ! NoSuchElementException
                map 0 19 0 9 ! NoSuchElementException; map 0 20 0 -1 ! NoSuchElementException
                map 0 19 0 16 ! NoSuchElementException; map 0 20 0 MAX ! NoSuchElementException
                map 1 19 0 9 ! NoSuchElementException; map 1 20 0 0 ! ClassCastException
                map 0 19 0 1 ! ClassCastException; map 0 20 0 3 ! ClassCastException; map 1 4 0 0 ! ClassCastException
                map 1 99 0 0 ! ClassCastException; map 0 -1 0 0 ! IllegalArgumentException
                map 0 26 0 0 ! IllegalArgumentException; map 0 MAX 0 9 ! IllegalArgumentException
                map 0 MIN 0 9 ! IllegalArgumentException; map 0 10 0 0 ! UnsupportedOperationException
                map 2 10 0 0 ! NoSuchElementException; map 2 21 0 0 ! UnsupportedOperationException
                map 0 4 0 0 = 0; map 2 4 0 0 = 0; count 0 = 4
                """);
    }
}
