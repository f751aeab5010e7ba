/** "Terms": what is thrown, and in which order. */
final class ThrownSentences {
    private static final String HASH_LINKED_TREE_SUBMAP_CURSOR =
            "make 0 0 0 = 0; make 1 0 0 = 1; make 2 0 0 = 2; view 2 4 0 0 = 3; cursor 2 = 4\n";

    private ThrownSentences() {
    }

    static void holdAll(Sentences doc) {
        notThere(doc);
        wrongKind(doc);
        wrongNumber(doc);
        stale(doc);
        notForThatKind(doc);
        fullAndEmpty(doc);
        changesNothing(doc);
    }

    private static void notThere(Sentences doc) {
        String sentence = "What is thrown, in this order: NoSuchElementException: an OBJECT that a call names first (o, then others)"
                + " is not there";
        for (String o : new String[] {"1", "15", "-1", "16", "MIN", "MAX"}) {
            doc.hold(sentence, "o is " + o, ("make 2 0 0 = 0; drop # ! NoSuchElement; map # 4 0 0 ! NoSuchElement; "
                    + "view # 4 0 0 !"
                    + " NoSuchElement; cursor # ! NoSuchElement; move # 1 0 ! NoSuchElement; "
                    + "item # 0 0 ! NoSuchElement; count 0 = 1")
                    .replace("#", o));
            doc.hold(sentence, "another is " + o, ("make 2 0 0 = 0; map 0 19 0 # ! NoSuchElement; "
                    + "map 0 20 0 # ! NoSuchElement\n"
                    + "count 0 = 1").replace("#", o));
        }
        doc.hold(sentence, "before ClassCastException", HASH_LINKED_TREE_SUBMAP_CURSOR
                + "map 9 19 0 4 ! NoSuchElement; map 9 20 0 4 ! NoSuchElement; map 4 19 0 9 ! NoSuchElement; "
                + "map 4 20 0 9 ! NoSuchElement");
        doc.hold(sentence, "before IllegalArgumentException", """
                map 9 26 0 0 ! NoSuchElement; map 9 -1 0 0 ! NoSuchElement; move 9 5 0 ! NoSuchElement
                view 9 5 0 0 ! NoSuchElement
                view 9 1 2 1 ! NoSuchElement; item 9 0 2 ! NoSuchElement; map 9 20 0 9 ! NoSuchElement
                """);
        doc.hold(sentence, "before full and IndexOutOfBoundsException", Sentences.sixteen()
                + "view 16 4 0 0 ! NoSuchElement; cursor 16 ! NoSuchElement; cursor -1 ! NoSuchElement; "
                + "item -1 -1 0 ! NoSuchElement");
        doc.hold(sentence, "no other is named by other ops", "make 2 0 0 = 0; map 0 0 1 9 = NONE; map 0 18 9 9 = 8; "
                + "map 0 21 0 9 !"
                + " UnsupportedOperation; map 0 26 0 9 ! IllegalArgument");
    }

    private static void wrongKind(Sentences doc) {
        String sentence = "ClassCastException: it is of no KIND that the call is for";
        for (int op = 0; op <= 25; op++) {
            doc.hold(sentence, "map op " + op + " on a CURSOR", HASH_LINKED_TREE_SUBMAP_CURSOR + "map 4 " + op
                    + " 0 0 ! ClassCast");
        }
        doc.hold(sentence, "map with a CURSOR as b", HASH_LINKED_TREE_SUBMAP_CURSOR + """
                map 0 19 0 4 ! ClassCast; map 1 19 0 4 ! ClassCast; map 2 19 0 4 ! ClassCast; map 3 19 0 4 ! ClassCast
                map 0 20 0 4 ! ClassCast; map 1 20 0 4 ! ClassCast; map 2 20 0 4 ! ClassCast; map 3 20 0 4 ! ClassCast
                map 4 19 0 4 ! ClassCast; map 4 20 0 4 ! ClassCast
                """);
        doc.hold(sentence, "view of a HASH, LINKED, CURSOR", HASH_LINKED_TREE_SUBMAP_CURSOR
                + "view 0 4 0 0 ! ClassCast; view 1 4 0 0 ! ClassCast; view 4 4 0 0 ! ClassCast; count 0 = 5");
        doc.hold(sentence, "cursor of a CURSOR", HASH_LINKED_TREE_SUBMAP_CURSOR + "cursor 4 ! ClassCast; count 0 = 5");
        doc.hold(sentence, "move of a MAP", HASH_LINKED_TREE_SUBMAP_CURSOR
                + "move 0 1 0 ! ClassCast; move 1 1 0 ! ClassCast; move 2 1 0 ! ClassCast; move 3 1 0 ! ClassCast");
        doc.hold(sentence, "item of a CURSOR", HASH_LINKED_TREE_SUBMAP_CURSOR + "item 4 0 0 ! ClassCast; "
                + "item 4 0 1 ! ClassCast");
        doc.hold(sentence, "before IllegalArgumentException", HASH_LINKED_TREE_SUBMAP_CURSOR + """
                map 4 26 0 0 ! ClassCast; map 4 -1 0 0 ! ClassCast; view 0 5 0 0 ! ClassCast; view 1 1 2 1 ! ClassCast
                view 4 0 0 0 ! ClassCast; move 2 5 0 ! ClassCast; move 0 -1 0 ! ClassCast; item 4 0 2 ! ClassCast
                """);
        doc.hold(sentence, "before full and IndexOutOfBoundsException", Sentences.sixteen()
                + "view 2 4 0 0 ! ClassCast; view 3 4 0 0 ! ClassCast; view 4 4 0 0 ! ClassCast; "
                + "cursor 4 ! ClassCast; item 4 -1 0 ! ClassCast");
    }

    private static void wrongNumber(Sentences doc) {
        String sentence = "IllegalArgumentException: an op that the call has not, or a number out of a range told for it";
        for (String op : new String[] {"-1", "26", "MIN", "MAX"}) {
            doc.hold(sentence, "map op " + op, HASH_LINKED_TREE_SUBMAP_CURSOR + ("map 0 # 0 0 ! IllegalArgument; "
                    + "map 1 # 0 0 !"
                    + " IllegalArgument; map 2 # 0 0 ! IllegalArgument; "
                    + "map 3 # 0 0 ! IllegalArgument").replace("#", op));
        }
        for (String op : new String[] {"-1", "5", "MIN", "MAX"}) {
            doc.hold(sentence, "move op " + op, HASH_LINKED_TREE_SUBMAP_CURSOR + "move 4 " + op
                    + " 0 ! IllegalArgument");
        }
        for (String kind : new String[] {"0", "5", "-1", "MIN", "MAX"}) {
            doc.hold(sentence, "view kind " + kind, HASH_LINKED_TREE_SUBMAP_CURSOR
                    + ("view 2 # 0 0 ! IllegalArgument; view 3 # 0 0 !"
                    + " IllegalArgument; count 0 = 5").replace("#", kind));
        }
        for (String part : new String[] {"-1", "2", "MIN", "MAX"}) {
            doc.hold(sentence, "item part " + part, HASH_LINKED_TREE_SUBMAP_CURSOR + ("map 2 0 1 1 = NONE; "
                    + "item 2 0 # ! IllegalArgument\n"
                    + "item 3 0 # ! IllegalArgument").replace("#", part));
        }
        for (String what : new String[] {"-1", "1", "9", "26", "29", "46", "MIN", "MAX"}) {
            doc.hold(sentence, "count " + what, HASH_LINKED_TREE_SUBMAP_CURSOR + "count " + what
                    + " ! IllegalArgument");
        }
        doc.hold(sentence, "before STALE", HASH_LINKED_TREE_SUBMAP_CURSOR
                + "map 2 0 1 1 = NONE; move 4 1 0 ! IllegalState; move 4 5 0 ! IllegalArgument; "
                + "move 4 -1 0 ! IllegalArgument");
        doc.hold(sentence, "before full", Sentences.sixteen()
                + "view 0 0 0 0 ! IllegalArgument; view 0 5 0 0 ! IllegalArgument; view 0 1 2 1 ! IllegalArgument; "
                + "view 1 1 1 2 ! IllegalArgument");
        doc.hold(sentence, "before IndexOutOfBoundsException", "make 2 0 0 = 0; item 0 0 2 ! IllegalArgument; "
                + "item 0 -1 -1 ! IllegalArgument");
    }

    private static void stale(Sentences doc) {
        String sentence = "IllegalStateException: a CURSOR that is STALE";
        doc.hold(sentence, "in all ops", HASH_LINKED_TREE_SUBMAP_CURSOR + "map 2 0 1 1 = NONE; "
                + "move 4 0 0 ! IllegalState; move 4 1 0 !"
                + " IllegalState; move 4 2 0 ! IllegalState; move 4 3 0 ! IllegalState; move 4 4 0 ! IllegalState");
        doc.hold(sentence, "before NoSuchElementException of op 0", HASH_LINKED_TREE_SUBMAP_CURSOR
                + "move 4 0 0 ! NoSuchElement; map 2 0 1 1 = NONE; map 2 2 1 0 = 1; move 4 0 0 ! IllegalState");
    }

    private static void notForThatKind(Sentences doc) {
        String sentence = "UnsupportedOperationException: the op is not for that KIND; then as told.";
        for (int op : new int[] {10, 11, 12, 13, 14, 15, 16, 17, 23}) {
            doc.hold(sentence, "op " + op + " of a HASH, empty or not", ("make 0 0 0 = 0; "
                    + "map 0 # 1 0 ! UnsupportedOperation\n"
                    + "map 0 0 1 5 = NONE; map 0 # 1 0 ! UnsupportedOperation; map 0 1 1 0 = 5").replace("#", "" + op));
        }
        for (int op : new int[] {14, 15, 16, 17, 21, 22, 23}) {
            doc.hold(sentence, "op " + op + " of a LINKED, empty or not", ("make 1 0 1 = 0; "
                    + "map 0 # 1 0 ! UnsupportedOperation\n"
                    + "map 0 0 1 5 = NONE; map 0 # 1 0 ! UnsupportedOperation; map 0 1 1 0 = 5").replace("#", "" + op));
        }
        for (int op : new int[] {21, 22}) {
            doc.hold(sentence, "op " + op + " of a TREE, a SUBMAP", ("make 2 0 0 = 0; view 0 4 0 0 = 1; "
                    + "map 0 # 1 0 ! UnsupportedOperation\n"
                    + "map 1 # 1 0 ! UnsupportedOperation").replace("#", "" + op));
        }
    }

    private static void fullAndEmpty(Sentences doc) {
        String sentence = "\"full\" is IllegalStateException, \"empty\" NoSuchElementException.";
        doc.hold(sentence, "16 OBJECTS", Sentences.sixteen()
                + "make 0 0 0 ! IllegalState; make 1 0 0 ! IllegalState; make 2 0 0 ! IllegalState; "
                + "view 0 4 0 0 ! IllegalState; cursor 0 ! IllegalState");
        doc.holdLong(sentence, "1000 keys", "make 2 0 0 = 0\n" + Sentences.puts(0, 0, 1000, 1)
                + "map 0 0 1000 1 ! IllegalState");
        for (String make : new String[] {"make 1 0 0 = 0\n", "make 2 0 0 = 0\n", "make 2 3 0 = 0\n"}) {
            doc.hold(sentence, "no key, behind " + make.strip(), make + """
                    map 0 10 0 0 ! NoSuchElement; map 0 11 0 0 ! NoSuchElement; map 0 12 0 0 ! NoSuchElement
                    map 0 13 0 0 ! NoSuchElement
                    """);
        }
        doc.hold(sentence, "no key in a SUBMAP of a TREE that has some", """
                make 2 0 0 = 0; map 0 0 5 1 = NONE; view 0 2 5 0 = 1; map 1 10 0 0 ! NoSuchElement
                map 1 11 0 0 ! NoSuchElement
                map 1 12 0 0 ! NoSuchElement; map 1 13 0 0 ! NoSuchElement; map 0 4 0 0 = 1
                """);
    }

    /** Runs plays every run again without the calls that throw; here is one for each call and exception. */
    private static void changesNothing(Sentences doc) {
        String sentence = "A call that throws changes nothing.";
        String start = "make 1 0 1 = 0; map 0 0 1 10 = NONE; map 0 0 2 20 = NONE; make 2 0 0 = 1; map 1 0 1 10 = NONE\n"
                + "map 1 0 7 70 = NONE; view 1 2 5 0 = 2; cursor 0 = 3; cursor 2 = 4; move 3 0 0 = 1; move 4 0 0 = 1\n";
        String end = "\nkeys 0 = 1 2; values 0 = 10 20; keys 1 = 1 7; values 1 = 10 70; keys 2 = 1; move 3 4 0 = 10; "
                + "move 3 1 0 = 1\n"
                + "move 4 4 0 = 10; move 4 1 0 = 0; count 0 = 5; move 3 0 0 = 2; make 0 0 0 = 5";
        String[] calls = {
            "make 3 0 0 ! IllegalArgument", "make 0 -1 0 ! NegativeArraySize", "make 2 4 0 ! IllegalArgument",
                    "drop 9 ! NoSuchElement",
            "map 9 5 0 0 ! NoSuchElement", "map 3 5 0 0 ! ClassCast", "map 0 26 1 0 ! IllegalArgument",
                    "map 0 14 1 0 ! UnsupportedOperation",
            "map 2 0 5 1 ! IllegalArgument", "map 2 6 5 1 ! IllegalArgument", "map 2 8 5 1 ! IllegalArgument",
                    "map 2 8 7 -70 ! IllegalArgument",
            "map 0 20 0 0 ! IllegalArgument", "map 2 20 0 1 ! IllegalArgument", "map 1 20 0 3 ! ClassCast",
                    "map 1 20 0 9 ! NoSuchElement",
            "view 1 1 2 1 ! IllegalArgument", "view 0 4 0 0 ! ClassCast", "view 1 0 0 0 ! IllegalArgument",
                    "cursor 3 ! ClassCast",
            "cursor 9 ! NoSuchElement", "move 3 5 0 ! IllegalArgument", "move 4 0 0 ! NoSuchElement",
                    "move 0 2 0 ! ClassCast",
            "item 0 2 0 ! IndexOutOfBounds", "item 0 0 2 ! IllegalArgument", "item 3 0 0 ! ClassCast",
                    "count 1 ! IllegalArgument",
        };
        for (String call : calls) {
            doc.hold(sentence, call, start + call + end);
        }
        doc.hold(sentence, "op 20 that fails by its last key", """
                make 2 0 0 = 0; view 0 2 9 0 = 1; make 1 0 0 = 2; map 2 0 1 1 = NONE; map 2 0 2 2 = NONE
                map 2 0 9 9 = NONE; cursor 0 = 3
                map 1 20 0 2 ! IllegalArgument; map 0 4 0 0 = 0; move 3 1 0 = 0; keys 2 = 1 2 9
                """);
        doc.hold(sentence, "op 20 that fails leaves VALUES and use as they were", """
                make 2 0 0 = 0; map 0 0 1 5 = NONE; view 0 2 9 0 = 1; make 1 0 1 = 2; map 2 0 1 1 = NONE
                map 2 0 9 9 = NONE
                map 1 20 0 2 ! IllegalArgument; map 0 1 1 0 = 5; keys 2 = 1 9
                """);
        doc.hold(sentence, "ops without PASSED", "make 2 0 0 = 0; map 0 0 1 1 = NONE; cursor 0 = 1; cursor 0 = 2; "
                + "move 1 2 0 ! IllegalState\n"
                + "move 1 3 9 ! IllegalState; move 1 4 0 ! IllegalState; values 0 = 1; move 2 0 0 = 1; move 1 0 0 = 1");
        doc.hold(sentence, "a STALE CURSOR's ops", "make 2 0 0 = 0; map 0 0 1 1 = NONE; cursor 0 = 1; move 1 0 0 = 1; "
                + "map 0 0 2 2 = NONE\n"
                + "cursor 0 = 2; move 1 2 0 ! IllegalState; move 1 3 9 ! IllegalState; keys 0 = 1 2; values 0 = 1 2; "
                + "move 2 0 0 = 1");
        doc.hold(sentence, "empty", "make 2 0 0 = 0; cursor 0 = 1; map 0 12 0 0 ! NoSuchElement; "
                + "map 0 13 0 0 ! NoSuchElement; move 1 1 0 = 0");
        doc.hold(sentence, "full", Sentences.sixteen() + "make 0 0 0 ! IllegalState; view 0 4 0 0 ! IllegalState; "
                + "cursor 0 ! IllegalState\n"
                + "count 0 = 16; move 4 1 0 = 0; drop 0 = 3");
        doc.hold(sentence, "drop of one that is not there", "make 2 0 0 = 0; view 0 4 0 0 = 1; drop 1 = 1; "
                + "drop 1 ! NoSuchElement; count 0 = 1");
    }
}
