/** "Terms": what is told of cursor and of move. */
final class CursorSentences {
    private static final String THREE = "make 2 0 0 = 0; map 0 0 1 10 = NONE; map 0 0 2 20 = NONE; "
            + "map 0 0 3 30 = NONE\n";
    private static final String STALE = "move(c, op, a): STALE if its MAP had CHANGES (a SUBMAP: the TREE) since its making"
            + " or its own last change, other than by it"
            + " (all ops look at that).";

    private CursorSentences() {
    }

    static void holdAll(Sentences doc) {
        beforeTheFirst(doc);
        staleByOthers(doc);
        staleWithTheTree(doc);
        notStale(doc);
        next(doc);
        goes(doc);
        values(doc);
        withoutPassed(doc);
    }

    private static void beforeTheFirst(Sentences doc) {
        String sentence = "cursor(o): CURSOR (KIND 4) before the first of a MAP.";
        doc.hold(sentence, "of every KIND of MAP", "make 0 8 0 = 0; make 1 0 0 = 1; make 2 0 0 = 2; view 2 4 0 0 = 3; "
                + "map 0 0 9 1 = NONE; map 0 0 8 1 = NONE; map 1 0 9 1 = NONE; map 1 0 8 1 = NONE; map 2 0 9 1 = NONE\n"
                + "map 2 0 8 1 = NONE; cursor 0 = 4; cursor 1 = 5; cursor 2 = 6; cursor 3 = 7; move 4 0 0 = 8; "
                + "move 5 0 0 = 9; move 6 0 0 = 8; move 7 0 0 = 9; count 14 = 4; count 17 = 4");
        doc.hold(sentence, "of a MAP without keys", "make 0 0 0 = 0; make 1 0 0 = 1; make 2 0 0 = 2; "
                + "view 2 2 0 0 = 3; cursor 0 = 4; cursor 1 = 5; cursor 2 = 6; cursor 3 = 7; move 4 1 0 = 0; "
                + "move 5 1 0 = 0; move 6 1 0 = 0; move 7 1 0 = 0");
        doc.hold(sentence, "not of a CURSOR", "make 2 0 0 = 0; cursor 0 = 1; cursor 1 ! ClassCast; count 0 = 2");
        doc.hold(sentence, "none is PASSED", THREE + "cursor 0 = 1; move 1 2 0 ! IllegalState; "
                + "move 1 3 0 ! IllegalState; move 1 4 0 ! IllegalState; move 1 0 0 = 1");
        doc.hold(sentence, "each for itself", THREE + "cursor 0 = 1; move 1 0 0 = 1; move 1 0 0 = 2; cursor 0 = 2; "
                + "move 2 0 0 = 1; move 1 0 0 = 3; move 2 0 0 = 2");
    }

    private static void staleByOthers(Sentences doc) {
        for (String make : Sentences.everyMap()) {
            String start = make + "map 0 0 1 10 = NONE; map 0 0 2 20 = NONE; cursor 0 = 2\n";
            for (int op = 0; op <= 4; op++) {
                doc.hold(STALE, "since its making, op " + op + ", behind " + make.strip(), start
                        + "map 0 0 3 30 = NONE; move 2 " + op + " 0 ! IllegalState; map 0 2 3 0 = 30; move 2 " + op
                        + " 0 ! IllegalState");
            }
            doc.hold(STALE, "by another CURSOR, behind " + make.strip(), make + "map 0 0 1 10 = NONE; cursor 0 = 2; "
                    + "cursor 0 = 3; move 2 0 0 = 1; move 3 0 0 = 1; move 2 2 0 = 1; move 3 1 0 ! IllegalState; "
                    + "move 2 1 0 = 0");
            doc.hold(STALE, "since its own last change, behind " + make.strip(), make + "map 0 0 1 10 = NONE; "
                    + "cursor 0 = 2; move 2 0 0 = 1; move 2 2 0 = 1; move 2 1 0 = 0; map 0 0 3 30 = NONE; "
                    + "move 2 1 0 ! IllegalState");
        }
        doc.hold(STALE, "before the key that was next, too", THREE + "cursor 0 = 1; move 1 0 0 = 1; map 0 2 1 0 = 10; "
                + "move 1 0 0 ! IllegalState; move 1 4 0 ! IllegalState");
        doc.hold(STALE, "it stays STALE", THREE + "cursor 0 = 1; map 0 0 9 1 = NONE; move 1 0 0 ! IllegalState; "
                + "map 0 2 9 0 = 1; move 1 0 0 ! IllegalState; move 1 0 0 ! IllegalState; cursor 0 = 2; "
                + "move 2 0 0 = 1; move 1 0 0 ! IllegalState");
        doc.hold(STALE, "by use of a LINKED", "make 1 0 1 = 0; map 0 0 1 10 = NONE; map 0 0 2 20 = NONE; "
                + "cursor 0 = 1; map 0 1 2 0 = 20; move 1 0 0 = 1; map 0 1 1 0 = 10; move 1 0 0 ! IllegalState");
    }

    private static void staleWithTheTree(Sentences doc) {
        String parts = THREE + "view 0 2 2 0 = 1; view 0 3 3 0 = 2; view 1 4 0 0 = 3; cursor 0 = 4; cursor 1 = 5; "
                + "cursor 2 = 6; cursor 3 = 7\n";
        String allStale = "\nmove 4 1 0 ! IllegalState; move 5 1 0 ! IllegalState; move 6 1 0 ! IllegalState; "
                + "move 7 1 0 ! IllegalState";
        doc.hold(STALE, "the TREE's own key comes", parts + "map 0 0 9 1 = NONE" + allStale);
        doc.hold(STALE, "a key comes to one SUBMAP", parts + "map 1 0 0 1 = NONE" + allStale);
        doc.hold(STALE, "a key goes from one SUBMAP", parts + "map 2 2 3 0 = 30" + allStale);
        doc.hold(STALE, "a key beside all SUBMAPS goes", parts + "map 0 2 2 0 = 20" + allStale);
        doc.hold(STALE, "all go from a part of a part", parts + "map 3 5 0 0 = 1" + allStale);
        doc.hold(STALE, "a CURSOR of a SUBMAP takes one out", parts + "move 7 0 0 = 1; move 7 2 0 = 1; "
                + "move 7 1 0 = 0; move 4 1 0 ! IllegalState; move 5 1 0 ! IllegalState; move 6 1 0 ! IllegalState");
        doc.hold(STALE, "VALUES alone are no CHANGE", parts + "map 0 0 1 11 = 10; map 1 0 1 12 = 11; "
                + "map 2 24 1 0 = 1; move 4 1 0 = 1; move 5 1 0 = 1; move 6 1 0 = 1; move 7 1 0 = 1");
        doc.hold(STALE, "another TREE does not matter", THREE + "cursor 0 = 1; make 2 0 0 = 2; map 2 0 1 1 = NONE; "
                + "map 2 5 0 0 = 1; move 1 0 0 = 1");
    }

    private static void notStale(Sentences doc) {
        doc.hold(STALE, "its own changes do not make it so", THREE + "cursor 0 = 1; move 1 0 0 = 1; move 1 2 0 = 1; "
                + "move 1 0 0 = 2; move 1 2 0 = 2; move 1 0 0 = 3; move 1 4 0 = 30; move 1 2 0 = 3; move 1 1 0 = 0; "
                + "map 0 4 0 0 = 0");
        doc.hold(STALE, "nor its own new VALUES, nor those of others", THREE + "cursor 0 = 1; cursor 0 = 2; "
                + "move 1 0 0 = 1; move 1 3 5 = 10; move 2 0 0 = 1; move 2 4 0 = 5; move 2 3 6 = 5; move 1 4 0 = 6; "
                + "map 0 0 1 7 = 6; move 1 4 0 = 7; move 1 0 0 = 2");
        doc.hold(STALE, "nor refused calls", THREE + "view 0 2 2 0 = 1; cursor 0 = 2; map 1 0 9 1 ! IllegalArgument; "
                + "map 0 20 0 0 ! IllegalArgument; map 0 2 9 0 = NONE; move 2 0 0 = 1");
        doc.hold(STALE, "nor new and dropped OBJECTS", THREE + "cursor 0 = 1; view 0 4 0 0 = 2; cursor 2 = 3; "
                + "drop 2 = 2; move 1 0 0 = 1");
    }

    private static void next(Sentences doc) {
        String next = "0: the next key, which is PASSED (none: NoSuchElementException);";
        doc.hold(next, "to the end and no further", THREE + "cursor 0 = 1; move 1 0 0 = 1; move 1 4 0 = 10; "
                + "move 1 0 9 = 2; move 1 4 0 = 20; move 1 0 0 = 3; move 1 4 0 = 30; move 1 0 0 ! NoSuchElement; "
                + "move 1 0 0 ! NoSuchElement");
        doc.hold(next, "the last one is still PASSED behind the end", THREE + "cursor 0 = 1; move 1 0 0 = 1; "
                + "move 1 0 0 = 2; move 1 0 0 = 3; move 1 0 0 ! NoSuchElement; move 1 4 0 = 30; move 1 2 0 = 3; "
                + "keys 0 = 1 2");
        doc.hold(next, "of none", "make 0 0 0 = 0; cursor 0 = 1; move 1 0 0 ! NoSuchElement; move 1 1 0 = 0");
        doc.hold(next, "in a HASH's order", "make 0 8 0 = 0; map 0 0 9 1 = NONE; map 0 0 8 2 = NONE; "
                + "map 0 0 1 3 = NONE; cursor 0 = 1; move 1 0 0 = 8; move 1 4 0 = 2; move 1 0 0 = 9; move 1 4 0 = 1; "
                + "move 1 0 0 = 1; move 1 4 0 = 3; move 1 0 0 ! NoSuchElement");
        doc.hold(next, "in a LINKED's order of use", "make 1 0 1 = 0; map 0 0 1 1 = NONE; map 0 0 2 2 = NONE; "
                + "map 0 1 1 0 = 1; cursor 0 = 1; move 1 0 0 = 2; move 1 0 0 = 1; move 1 0 0 ! NoSuchElement");
        doc.hold(next, "in a turned SUBMAP's order, no key beside it", THREE + "view 0 3 2 0 = 1; view 1 4 0 0 = 2; "
                + "cursor 2 = 3; move 3 0 0 = 3; move 3 4 0 = 30; move 3 0 0 = 2; move 3 0 0 ! NoSuchElement");
        doc.hold(next, "the ends of the ints", "make 2 0 0 = 0; map 0 0 MIN MAX = NONE; map 0 0 MAX MIN = NONE; "
                + "cursor 0 = 1; move 1 0 0 = -2147483648; move 1 4 0 = 2147483647; move 1 0 0 = 2147483647; "
                + "move 1 4 0 = -2147483648");
        String has = "1: 1 if there is one next;";
        doc.hold(has, "else 0", THREE + "cursor 0 = 1; move 1 1 0 = 1; move 1 1 0 = 1; move 1 0 0 = 1; "
                + "move 1 1 9 = 1; move 1 0 0 = 2; move 1 1 0 = 1; move 1 0 0 = 3; move 1 1 0 = 0; move 1 1 0 = 0");
        doc.hold(has, "behind the last one that went", THREE + "cursor 0 = 1; move 1 0 0 = 1; move 1 0 0 = 2; "
                + "move 1 2 0 = 2; move 1 1 0 = 1; move 1 0 0 = 3; move 1 2 0 = 3; move 1 1 0 = 0; keys 0 = 1");
    }

    private static void goes(Sentences doc) {
        String sentence = "2: PASSED one goes, none is PASSED then: it;";
        doc.hold(sentence, "the first", THREE + "cursor 0 = 1; move 1 0 0 = 1; move 1 2 9 = 1; keys 0 = 2 3; "
                + "move 1 0 0 = 2");
        doc.hold(sentence, "one between", THREE + "cursor 0 = 1; move 1 0 0 = 1; move 1 0 0 = 2; move 1 2 0 = 2; "
                + "keys 0 = 1 3; move 1 0 0 = 3; move 1 4 0 = 30");
        doc.hold(sentence, "the last", THREE + "cursor 0 = 1; move 1 0 0 = 1; move 1 0 0 = 2; move 1 0 0 = 3; "
                + "move 1 2 0 = 3; keys 0 = 1 2; move 1 0 0 ! NoSuchElement");
        doc.hold(sentence, "not twice", THREE + "cursor 0 = 1; move 1 0 0 = 1; move 1 2 0 = 1; "
                + "move 1 2 0 ! IllegalState; move 1 3 5 ! IllegalState; move 1 4 0 ! IllegalState; keys 0 = 2 3; "
                + "values 0 = 20 30; move 1 0 0 = 2");
        for (String make : Sentences.everyMap()) {
            doc.hold(sentence, "all of them, behind " + make.strip(), make + "map 0 0 4 1 = NONE; cursor 0 = 2; "
                    + "move 2 0 0 = 4; move 2 2 0 = 4; map 0 4 0 0 = 0; move 2 1 0 = 0; map 0 0 5 1 = NONE; "
                    + "map 0 0 6 1 = NONE; cursor 0 = 3\n"
                    + "move 3 1 0 = 1; map 0 4 0 0 = 2");
        }
        doc.hold(sentence, "from a HASH", "make 0 8 0 = 0; map 0 0 9 1 = NONE; map 0 0 8 2 = NONE; "
                + "map 0 0 1 3 = NONE; cursor 0 = 1; move 1 0 0 = 8; move 1 0 0 = 9; move 1 2 0 = 9; move 1 0 0 = 1; "
                + "move 1 2 0 = 1; keys 0 = 8; map 0 21 0 0 = 8");
        doc.hold(sentence, "from a turned SUBMAP", THREE + "view 0 4 0 0 = 1; view 1 2 1 0 = 2; cursor 2 = 3; "
                + "move 3 0 0 = 3; move 3 2 0 = 3; move 3 0 0 = 2; move 3 4 0 = 20; move 3 2 0 = 2; move 3 1 0 = 0; "
                + "keys 0 = 1");
        doc.hold(sentence, "its key, not the one it is alike to", "make 2 3 0 = 0; map 0 0 13 1 = NONE; "
                + "map 0 0 3 2 = 1; cursor 0 = 1; move 1 0 0 = 13; move 1 2 0 = 13; keys 0 = none");
        doc.hold(sentence, "0 and the least int are keys too", "make 2 0 0 = 0; map 0 0 0 1 = NONE; "
                + "map 0 0 MIN 1 = NONE; cursor 0 = 1; move 1 0 0 = -2147483648; move 1 2 0 = -2147483648; "
                + "move 1 0 0 = 0; move 1 2 0 = 0; keys 0 = none");
    }

    private static void values(Sentences doc) {
        String becomes = "3: PASSED one's VALUE becomes a: what was;";
        doc.hold(becomes, "again and again", THREE + "cursor 0 = 1; move 1 0 0 = 1; move 1 0 0 = 2; "
                + "move 1 3 MAX = 20; move 1 3 MIN = 2147483647; move 1 3 0 = -2147483648; move 1 3 5 = 0; "
                + "values 0 = 10 5 30; move 1 0 0 = 3");
        doc.hold(becomes, "in the TREE of a turned SUBMAP", THREE + "view 0 4 0 0 = 1; cursor 1 = 2; move 2 0 0 = 3; "
                + "move 2 3 31 = 30; move 2 0 0 = 2; move 2 3 21 = 20; values 0 = 10 21 31");
        doc.hold(becomes, "0 does not take it out", THREE + "cursor 0 = 1; move 1 0 0 = 1; move 1 3 0 = 10; "
                + "move 1 4 0 = 0; map 0 4 0 0 = 3");
        doc.hold(becomes, "a LINKED's order stays", "make 1 0 1 = 0; map 0 0 1 10 = NONE; map 0 0 2 20 = NONE; "
                + "cursor 0 = 1; move 1 0 0 = 1; move 1 3 5 = 10; keys 0 = 1 2; values 0 = 5 20; move 1 0 0 = 2");
        doc.hold(becomes, "of a HASH", "make 0 8 0 = 0; map 0 0 9 1 = NONE; map 0 0 8 2 = NONE; cursor 0 = 1; "
                + "move 1 0 0 = 8; move 1 3 7 = 2; values 0 = 7 1");
        String value = "4: PASSED one's VALUE.";
        doc.hold(value, "as it is now", THREE + "cursor 0 = 1; move 1 0 0 = 1; move 1 4 9 = 10; map 0 0 1 11 = 10; "
                + "move 1 4 0 = 11; map 0 24 1 0 = 3; move 1 4 0 = 12; move 1 4 0 = 12; move 1 0 0 = 2; "
                + "move 1 4 0 = 21");
        doc.hold(value, "a LINKED's order stays", "make 1 0 1 = 0; map 0 0 1 10 = NONE; map 0 0 2 20 = NONE; "
                + "cursor 0 = 1; move 1 0 0 = 1; move 1 4 0 = 10; keys 0 = 1 2; move 1 0 0 = 2");
    }

    private static void withoutPassed(Sentences doc) {
        String sentence = "2, 3, 4 without PASSED: IllegalStateException (behind STALE).";
        for (int op = 2; op <= 4; op++) {
            doc.hold(sentence, op + " before the first", THREE
                    + "cursor 0 = 1; move 1 # 5 ! IllegalState; move 1 1 0 = 1; move 1 0 0 = 1; values 0 = 10 20 30".replace("#", "" + op));
            doc.hold(sentence, op + " behind one that went", THREE
                    + "cursor 0 = 1; move 1 0 0 = 1; move 1 2 0 = 1; move 1 # 5 ! IllegalState; move 1 0 0 = 2; values 0 = 20 30".replace("#", "" + op));
            doc.hold(sentence, op + " of none",
                    "make 1 0 0 = 0; cursor 0 = 1; move 1 # 5 ! IllegalState; move 1 1 0 = 0".replace("#", "" + op));
            doc.hold(sentence, op + " of a STALE one", THREE
                    + "cursor 0 = 1; map 0 0 9 1 = NONE; move 1 # 5 ! IllegalState; map 0 4 0 0 = 4".replace("#", ""
                    + op));
        }
    }
}
