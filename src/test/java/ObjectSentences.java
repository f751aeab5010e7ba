/** "What it is", and in "Terms" what is told of OBJECTS, ints, NONE, mod, ORDERS and the MAPS' ranges. */
final class ObjectSentences {
    private ObjectSentences() {
    }

    static void holdAll(Sentences doc) {
        whatItIs(doc);
        numbers(doc);
        ints(doc);
        orders(doc);
        ranges(doc);
        sameKeys(doc);
    }

    private static void whatItIs(Sentences doc) {
        doc.hold("An atlas of keys: maps by tables that are doubled, by links in the order of coming or use, by balanced trees"
                + " in four orders, parts of these from key to key and turned round, parts of parts, and cursors that are stale"
                + " when others have changed what they go over.", "all of these at once", """
                make 0 0 0 = 0; make 1 0 0 = 1; make 1 0 1 = 2; make 2 0 0 = 3; make 2 1 0 = 4; make 2 2 0 = 5
                make 2 3 0 = 6
                view 3 1 0 5 = 7; view 7 4 0 0 = 8; cursor 8 = 9; map 0 0 1 1 = NONE; map 0 21 0 0 = 2
                map 0 0 2 1 = NONE
                map 0 21 0 0 = 4; map 3 0 4 1 = NONE; move 9 1 0 ! IllegalState; count 0 = 10
                """);
        String calls = "An object is used for at most 512 calls after it has been made; "
                + "what later calls answer is free.";
        for (String make : new String[] {"make 0 0 0", "make 0 0 2", "make 1 0 1", "make 2 0 0", "make 2 2 0"}) {
            doc.hold(calls, make + ": the 512th is the last one that counts", make + " = 0\n"
                    + Sentences.puts(0, 0, 508, 1)
                    + "map 0 0 508 7 = NONE; map 0 1 508 0 = 7; map 0 4 0 0 = 509");
        }
        doc.hold(calls, "as many keys as 512 calls can bring are not full", "make 2 0 0 = 0\n"
                + Sentences.puts(0, 0, 507, 1)
                + "make 0 0 0 = 1; map 1 20 0 0 = 507; map 1 4 0 0 = 507; map 1 21 0 0 = 1024");
    }

    private static void numbers(Sentences doc) {
        String numbers = "OBJECTS have numbers 0 .. 15, each a KIND, told at make by its number";
        doc.hold(numbers, "the first is 0, the last 15", Sentences.sixteen() + """
                count 10 = 2; count 11 = 3; count 12 = 0; count 13 = 1; count 14 = 4; count 25 = 2; map 15 0 1 1 = NONE
                map 15 4 0 0 = 1; item 15 0 0 = 1; drop 15 = 1; drop 0 = 3
                """);
        for (String o : new String[] {"-1", "16", "MIN", "MAX"}) {
            doc.hold(numbers, o + " is none", Sentences.sixteen() + "drop " + o + " ! NoSuchElement; map " + o
                    + " 4 0 0 ! NoSuchElement; cursor " + o + " ! NoSuchElement; count 0 = 16");
        }
        String least = "a new one has the least free number.";
        doc.hold(least, "by make, view and cursor", Sentences.sixteen() + """
                drop 9 = 1; drop 6 = 1; drop 12 = 1; cursor 5 = 6; view 5 4 0 0 = 9; make 0 0 0 = 12
                make 0 0 0 ! IllegalState
                """);
        doc.hold(least, "0 again", "make 0 0 0 = 0; make 1 0 0 = 1; drop 0 = 1; make 2 0 0 = 0; make 2 0 0 = 2; "
                + "count 10 = 2");
        doc.hold(least, "those of parts that went are free too", """
                make 2 0 0 = 0; view 0 4 0 0 = 1; cursor 1 = 2; make 0 0 0 = 3; drop 0 = 3; make 1 0 0 = 0
                make 1 0 0 = 1
                make 1 0 0 = 2; make 1 0 0 = 4
                """);
        doc.hold(least, "a refused one takes none", "make 3 0 0 ! IllegalArgument; make 0 -1 0 ! NegativeArraySize; "
                + "make 2 4 0 !"
                + " IllegalArgument; make 2 0 0 = 0; view 0 5 0 0 ! IllegalArgument; view 0 1 2 1 ! IllegalArgument; "
                + "make 0 0 0 = 1");
    }

    private static void ints(Sentences doc) {
        for (String make : Sentences.everyMap()) {
            doc.hold("Keys and VALUES are ints.", "the least and the greatest, behind " + make.strip(), make + """
                    map 0 0 MIN MAX = NONE; map 0 0 MAX MIN = NONE; map 0 1 MIN 0 = 2147483647
                    map 0 1 MAX 0 = -2147483648
                    map 0 4 0 0 = 2; map 0 9 MAX 0 = 1; map 0 9 MIN 0 = 1; map 0 3 MIN 0 = 1
                    map 0 0 MIN -1 = 2147483647
                    map 0 2 MIN 0 = -1; map 0 2 MAX 0 = -2147483648; map 0 4 0 0 = 0
                    """);
        }
        KeyAtlas atlas = new KeyAtlas();
        atlas.make(2, 0, 0);
        doc.due("NONE is 2^40 as an answer.", "of op 1", atlas.map(0, 1, 5, 0), 1099511627776L);
        doc.due("NONE is 2^40 as an answer.", "of op 14", atlas.map(0, 14, 5, 0), 1099511627776L);
        String mod = "mod: the rest, never below 0.";
        doc.hold(mod, "of a key below 0 by RULE 1", "make 0 16 1 = 0; map 0 0 -1 1 = NONE; map 0 0 -15 1 = NONE; "
                + "map 0 0 -16 1 = NONE\n"
                + "map 0 0 MIN 1 = NONE; map 0 0 14 1 = NONE; keys 0 = -16 -2147483648 -15 14 -1");
        // -65536 ^ (-65536 >>> 16) = -1
        doc.hold(mod, "of a number below 0 for its BIN", "make 0 16 0 = 0; map 0 0 -65536 1 = NONE; "
                + "map 0 0 15 1 = NONE; map 0 0 14 1 ="
                + " NONE; map 0 0 0 1 = NONE; keys 0 = 0 14 -65536 15");
        doc.hold(mod, "of a key below 0 by ORDER 3", "make 2 3 0 = 0; map 0 0 -1 1 = NONE; map 0 0 -9 1 = NONE; "
                + "map 0 0 -10 1 = NONE\n"
                + "map 0 0 MIN 1 = NONE; keys 0 = -10 -9 -2147483648 -1; map 0 1 9 0 = 1; map 0 1 1 0 = 1; "
                + "map 0 1 2 0 = 1; map 0 1 8 0 = NONE");
    }

    private static void orders(Sentences doc) {
        String keys = """
                 = 0; map 0 0 -3 1 = NONE; map 0 0 12 2 = NONE; map 0 0 MIN 3 = NONE; map 0 0 3 4 = NONE
                 map 0 0 0 5 = NONE
                map 0 0 MAX 6 = NONE; map 0 0 -2147483647 7 = NONE; map 0 0 -12 8 = NONE
                """;
        doc.hold("ORDERS: 0 rising", "from the least int to the greatest", "make 2 0 0" + keys
                + "keys 0 = -2147483648 -2147483647 -12 -3 0 3 12 2147483647");
        doc.hold("1 falling", "from the greatest int to the least", "make 2 1 0" + keys
                + "keys 0 = 2147483647 12 3 0 -3 -12 -2147483647 -2147483648");
        doc.hold("2 by size (without sign), of the same size rising", "0 first, the least int last", "make 2 2 0" + keys
                + "keys 0 = 0 -3 3 -12 12 -2147483647 2147483647 -2147483648");
        doc.hold("2 by size (without sign), of the same size rising", "-1 and 1 are not alike", "make 2 2 0 = 0; "
                + "map 0 0 1 1 = NONE; map 0 0 -1 2 = NONE; map 0 0 2 3 = NONE; map 0 0 -2 4 = NONE; "
                + "map 0 0 0 5 = NONE\n"
                + "keys 0 = 0 -1 1 -2 2; values 0 = 5 2 1 4 3; map 0 17 -1 0 = 1; map 0 14 1 0 = -1; "
                + "map 0 17 0 0 = -1");
        String digits = "3 by the number mod 10 alone (others are alike then).";
        doc.hold(digits, "ten at most", "make 2 3 0 = 0\n" + Sentences.puts(0, 15, 25, 1)
                + "keys 0 = 20 21 22 23 24 15 16 17 18 19; map 0 0 0 2 = 1; map 0 0 -1 2 = 1; map 0 4 0 0 = 10");
        doc.hold(digits, "the least int is alike to 2, the greatest to 7", """
                make 2 3 0 = 0; map 0 0 MIN 1 = NONE; map 0 0 MAX 2 = NONE; keys 0 = -2147483648 2147483647
                map 0 1 2 0 = 1
                map 0 1 7 0 = 2; map 0 1 8 0 = NONE; map 0 1 -8 0 = 1; map 0 1 -3 0 = 2
                """);
    }

    private static void ranges(Sentences doc) {
        String hash = "MAPS: HASH (KIND 0, a CAPACITY 0 .. 1000, b RULE 0 .. 3)";
        doc.hold(hash, "the ends of the ranges", "make 0 0 0 = 0; make 0 1000 3 = 1; make 0 0 3 = 2; "
                + "make 0 1000 0 = 3; count 11 = 0");
        doc.hold(hash, "CAPACITY too large", "make 0 1001 0 ! IllegalArgument; make 0 MAX 0 ! IllegalArgument; "
                + "count 0 = 0");
        doc.hold(hash, "CAPACITY too small", "make 0 -1 0 ! NegativeArraySize; make 0 MIN 0 ! NegativeArraySize; "
                + "count 0 = 0");
        doc.hold(hash, "RULE too small", "make 0 0 -1 ! IllegalArgument; make 0 0 MIN ! IllegalArgument; count 0 = 0");
        doc.hold(hash, "RULE too large", "make 0 0 4 ! IllegalArgument; make 0 0 MAX ! IllegalArgument; count 0 = 0");
        String linked = "LINKED (KIND 1, a LIMIT 0 .. 1000, b 0, 1)";
        doc.hold(linked, "the ends of the ranges", "make 1 0 0 = 0; make 1 1000 1 = 1; make 1 0 1 = 2; "
                + "make 1 1000 0 = 3; count 11 = 1");
        doc.hold(linked, "LIMIT too small", "make 1 -1 0 ! IllegalArgument; make 1 MIN 0 ! IllegalArgument; "
                + "count 0 = 0");
        doc.hold(linked, "LIMIT too large", "make 1 1001 0 ! IllegalArgument; make 1 MAX 0 ! IllegalArgument; "
                + "count 0 = 0");
        doc.hold(linked, "b too small", "make 1 0 -1 ! IllegalArgument; make 1 0 MIN ! IllegalArgument; count 0 = 0");
        doc.hold(linked, "b too large", "make 1 0 2 ! IllegalArgument; make 1 0 MAX ! IllegalArgument; count 0 = 0");
        String tree = "TREE (KIND 2, a ORDER 0 .. 3)";
        doc.hold(tree, "the ends of the range", "make 2 0 0 = 0; make 2 3 0 = 1; count 10 = 2; count 11 = 2");
        doc.hold(tree, "ORDER too small", "make 2 -1 0 ! IllegalArgument; make 2 MIN 0 ! IllegalArgument; count 0 = 0");
        doc.hold(tree, "ORDER too large", "make 2 4 0 ! IllegalArgument; make 2 MAX 0 ! IllegalArgument; count 0 = 0");
        doc.hold("SUBMAP (KIND 3)", "by view, not by make", "make 3 0 0 ! IllegalArgument; make 2 0 0 = 0; "
                + "view 0 4 0 0 = 1; count 11 = 3");
        full(doc);
    }

    /** No 512 calls bring 1000 keys; the class keeps to the sentence all the same, so these runs are longer. */
    private static void full(Sentences doc) {
        String most = "keys with VALUES, at most 1000 (else full).";
        for (String make : new String[] {"make 0 0 0", "make 0 0 2", "make 1 0 0", "make 1 0 1", "make 2 0 0",
                "make 2 1 0", "make 2 2 0"}) {
            doc.holdLong(most, make + ": the 1000th comes, no other", make + " = 0\n" + Sentences.puts(0, 0, 1000, 1) + """
                    map 0 4 0 0 = 1000; map 0 0 1000 1 ! IllegalState; map 0 6 1000 1 ! IllegalState
                    map 0 8 1000 1 ! IllegalState
                    map 0 8 1000 0 ! IllegalState; map 0 4 0 0 = 1000; map 0 3 1000 0 = 0
                    """);
            doc.holdLong(most, make + ": a full one still has all that brings no key", make + " = 0\n" + Sentences.puts(0, 0, 1000, 1) + """
                    map 0 0 7 2 = 1; map 0 6 7 3 = 2; map 0 7 1000 1 = NONE; map 0 8 7 3 = 5; map 0 24 1 0 = 1000
                    map 0 25 6 0 = 1
                    map 0 0 1000 1 = NONE; map 0 4 0 0 = 1000; map 0 0 7 1 ! IllegalState; map 0 2 1000 0 = 1
                    map 0 8 7 4 = 4
                    """);
        }
        doc.holdLong(most, "a SUBMAP is full with its TREE", "make 2 0 0 = 0\n" + Sentences.puts(0, 0, 1000, 1)
                + "view 0 2 1 0 = 1; map 1 4 0 0 = 1; map 1 0 -1 1 ! IllegalState; map 1 0 0 5 = 1; "
                + "map 0 2 999 0 = 1; map 1 0 -1 1 = NONE");
    }

    private static void sameKeys(Sentences doc) {
        String same = "Keys are the same if equal; in a TREE if alike.";
        for (String make : new String[] {"make 0 0 0", "make 0 0 1", "make 0 0 2", "make 1 0 0", "make 2 0 0",
                "make 2 1 0", "make 2 2 0"}) {
            doc.hold(same, make + ": equal ones alone", make + " = 0; map 0 0 5 1 = NONE; map 0 0 15 2 = NONE; "
                    + "map 0 0 -5 3 = NONE\n"
                    + "map 0 0 21 4 = NONE; map 0 0 5 5 = 1; map 0 4 0 0 = 4; map 0 1 15 0 = 2; map 0 3 25 0 = 0; "
                    + "map 0 2 -5 0 = 3");
        }
        doc.hold(same, "alike ones by ORDER 3", """
                make 2 3 0 = 0; map 0 0 5 1 = NONE; map 0 0 15 2 = 1; map 0 0 -5 3 = 2; map 0 1 25 0 = 3
                map 0 3 35 0 = 1
                map 0 6 45 4 = 3; map 0 7 55 5 = 3; map 0 8 65 1 = 6; keys 0 = 5; map 0 2 -15 0 = 6; map 0 4 0 0 = 0
                """);
        doc.hold(same, "alike ones in a SUBMAP of such a TREE", """
                make 2 3 0 = 0; view 0 4 0 0 = 1; map 1 0 5 1 = NONE; map 1 0 15 2 = 1; map 1 1 -5 0 = 2; keys 1 = 5
                map 1 2 95 0 = 2
                """);
    }
}
