/** "Terms": what is told of LINKED, and of the order of TREE and SUBMAP. */
final class LinkedSentences {
    private static final String USED =
            "with b 1 a key that op 0, 1, 6, 7, 8 finds there goes to the end (a CHANGE, if it was not there).";
    private static final String LIMITED =
            "With LIMIT above 0: a key comes, and there are more then: the first one goes (such a one is never full).";
    private static final String[] USES = {"map 0 0 # 10 = 10", "map 0 1 # 0 = 10", "map 0 6 # 99 = 10",
            "map 0 7 # 10 = 10", "map 0 8 # 0 = 10"};

    private LinkedSentences() {
    }

    static void holdAll(Sentences doc) {
        coming(doc);
        use(doc);
        limit(doc);
        doc.hold("TREE: in its ORDER.", "however they come", "make 2 1 0 = 0; map 0 0 2 1 = NONE; map 0 0 3 1 = NONE; "
                + "map 0 0 1 1 = NONE; keys 0 = 3 2 1\n"
                + "map 0 1 3 0 = 1; map 0 0 3 2 = 1; keys 0 = 3 2 1");
        doc.hold("SUBMAP: see view; in its order.", "turned or not", "make 2 1 0 = 0; map 0 0 2 1 = NONE; "
                + "map 0 0 3 1 = NONE; map 0 0 1 1 = NONE\n"
                + "view 0 3 2 0 = 1; keys 1 = 2 1; view 0 4 0 0 = 2; keys 2 = 1 2 3; view 2 3 2 0 = 3; keys 3 = 2 3");
    }

    private static void coming(Sentences doc) {
        String sentence = "LINKED: order of coming;";
        doc.hold(sentence, "not of the keys", "make 1 0 0 = 0; map 0 0 5 1 = NONE; map 0 6 MIN 2 = NONE; "
                + "map 0 8 7 3 = 3; map 0 0 0 4 = NONE; keys 0 = 5 -2147483648 7 0");
        doc.hold(sentence, "with b 0 a key that is found stays", "make 1 0 0 = 0; map 0 0 1 10 = NONE; "
                + "map 0 0 2 10 = NONE; map 0 0 3 10 = NONE\n"
                + String.join("\n", USES).replace("#", "1") + "\nkeys 0 = 1 2 3");
        for (String use : USES) {
            doc.hold(sentence, "with b 0 it is no CHANGE: " + use, "make 1 0 0 = 0; map 0 0 1 10 = NONE; "
                    + "map 0 0 2 10 = NONE; cursor 0 = 1\n"
                    + use.replace("#", "1") + "; move 1 0 0 = 1; keys 0 = 1 2");
        }
        doc.hold(sentence, "a key that went comes anew", "make 1 0 0 = 0; map 0 0 1 10 = NONE; map 0 0 2 20 = NONE; "
                + "map 0 2 1 0 = 10; map 0 0 1 11 = NONE; keys 0 = 2 1");
    }

    private static void use(Sentences doc) {
        String three = "make 1 0 1 = 0; map 0 0 1 10 = NONE; map 0 0 2 10 = NONE; map 0 0 3 10 = NONE; cursor 0 = 1\n";
        for (String use : USES) {
            doc.hold(USED, "the first: " + use, three + use.replace("#", "1") + "; keys 0 = 2 3 1; "
                    + "move 1 1 0 ! IllegalState");
            doc.hold(USED, "one between: " + use, three + use.replace("#", "2") + "; keys 0 = 1 3 2; "
                    + "move 1 1 0 ! IllegalState");
            doc.hold(USED, "the one at the end is no CHANGE: " + use, three + use.replace("#", "3") + "; "
                    + "keys 0 = 1 2 3; move 1 0 0 = 1");
            doc.hold(USED, "one alone is at the end: " + use, "make 1 0 1 = 0; map 0 0 5 10 = NONE; cursor 0 = 1\n"
                    + use.replace("#", "5")
                    + "; keys 0 = 5; move 1 0 0 = 5");
        }
        doc.hold(USED, "a key that comes before or behind a use does not undo the CHANGE", three
                + "map 0 0 4 10 = NONE; map 0 1 1 0 = 10; move 1 1 0 ! IllegalState\n"
                + "cursor 0 = 2; map 0 1 2 0 = 10; map 0 0 5 10 = NONE; move 2 1 0 ! IllegalState; cursor 0 = 3; "
                + "map 0 1 3 0 = 10; map 0 2 3 0 = 10; move 3 1 0 ! IllegalState");
        for (int size = 1; size <= 40; size++) {
            doc.hold(USED, "the first of " + size, "make 1 0 1 = 0\n" + Sentences.puts(0, 1, size + 1, 7)
                    + "map 0 1 1 0 = 7; map 0 4 0 0 = " + size + "; map 0 11 0 0 = 1; map 0 10 0 0 = " + Math.min(2, size));
        }
        doc.hold(USED, "with the VALUE that it has then", three + "map 0 0 1 11 = 10; map 0 7 2 12 = 10; "
                + "map 0 8 3 3 = 13; keys 0 = 1 2 3; values 0 = 11 12 13");
        doc.hold(USED, "op 6 leaves the VALUE", three + "map 0 6 1 99 = 10; keys 0 = 2 3 1; values 0 = 10 10 10");
        doc.hold(USED, "op 8 that gives 0: it goes", three + "map 0 8 2 -10 = NONE; keys 0 = 1 3; "
                + "move 1 1 0 ! IllegalState");
        String[] notFound = {"map 0 1 9 0 = NONE", "map 0 7 9 1 = NONE"};
        for (String call : notFound) {
            doc.hold(USED, "none is found: " + call, three + call + "; keys 0 = 1 2 3; move 1 0 0 = 1");
        }
        String[] others = {"map 0 3 1 0 = 1", "map 0 4 0 0 = 3", "map 0 9 10 0 = 3", "map 0 10 0 0 = 1",
                "map 0 11 0 0 = 3", "map 0 18 0 0 = 28",
            "map 0 19 0 0 = 1", "map 0 24 0 0 = 3", "map 0 25 9 0 = 0", "item 0 0 0 = 1", "item 0 0 1 = 10",
                    "count 30 = 3", "cursor 0 = 2"};
        for (String call : others) {
            doc.hold(USED, "other calls are no use: " + call, three + call + "; keys 0 = 1 2 3; move 1 0 0 = 1");
        }
        doc.hold(USED, "a CURSOR's ops are no use", three + "move 1 0 0 = 1; move 1 4 0 = 10; move 1 3 7 = 10; "
                + "keys 0 = 1 2 3; move 1 0 0 = 2");
        doc.hold(USED, "op 19 with it as b is no use", three + "make 1 0 0 = 2; map 2 20 0 0 = 3; map 2 19 0 0 = 1; "
                + "map 0 19 0 2 = 1; keys 0 = 1 2 3; move 1 0 0 = 1");
        doc.hold(USED, "op 20 is op 0", three + "make 2 1 0 = 2; map 2 0 1 1 = NONE; map 2 0 2 2 = NONE; "
                + "map 0 20 0 2 = 2; keys 0 = 3 2 1; values 0 = 10 2 1\n"
                + "move 1 1 0 ! IllegalState");
    }

    private static void limit(Sentences doc) {
        doc.hold(LIMITED, "as many as LIMIT stay, one more does not", "make 1 3 0 = 0; map 0 0 1 1 = NONE; "
                + "map 0 0 2 2 = NONE; map 0 0 3 3 = NONE; keys 0 = 1 2 3\n"
                + "map 0 0 4 4 = NONE; keys 0 = 2 3 4; map 0 1 1 0 = NONE; map 0 4 0 0 = 3");
        doc.hold(LIMITED, "LIMIT 1", "make 1 1 0 = 0; map 0 0 1 1 = NONE; keys 0 = 1; map 0 0 2 2 = NONE; keys 0 = 2; "
                + "values 0 = 2; map 0 0 1 3 = NONE; keys 0 = 1");
        doc.hold(LIMITED, "LIMIT 0 is none", "make 1 0 0 = 0\n" + Sentences.puts(0, 0, 200, 1) + "map 0 4 0 0 = 200; "
                + "map 0 10 0 0 = 0");
        doc.hold(LIMITED, "a key that is there does not come", "make 1 2 0 = 0; map 0 0 1 1 = NONE; "
                + "map 0 0 2 2 = NONE; map 0 0 1 3 = 1; map 0 6 2 9 = 2\n"
                + "map 0 7 1 4 = 3; map 0 8 1 1 = 5; map 0 7 9 9 = NONE; keys 0 = 1 2");
        doc.hold(LIMITED, "by op 6", "make 1 2 0 = 0; map 0 0 1 1 = NONE; map 0 0 2 2 = NONE; map 0 6 3 3 = NONE; "
                + "keys 0 = 2 3");
        doc.hold(LIMITED, "by op 8", "make 1 2 0 = 0; map 0 0 1 1 = NONE; map 0 0 2 2 = NONE; map 0 8 3 3 = 3; "
                + "keys 0 = 2 3; map 0 8 4 0 = 0; keys 0 = 3 4");
        doc.hold(LIMITED, "by op 20: the last ones stay", "make 1 2 0 = 0; make 2 0 0 = 1\n"
                + Sentences.puts(1, 1, 6, 7) + "map 0 20 0 1 = 5; keys 0 = 4 5; values 0 = 7 7");
        doc.hold(LIMITED, "by op 20: one that went comes again", "make 1 2 0 = 0; map 0 0 3 9 = NONE; make 2 0 0 = 1\n"
                + Sentences.puts(1, 1, 4, 7)
                + "map 0 20 0 1 = 3; keys 0 = 2 3; values 0 = 7 7");
        doc.hold(LIMITED, "of those in use the one used longest ago goes", "make 1 2 1 = 0; map 0 0 1 1 = NONE; "
                + "map 0 0 2 2 = NONE; map 0 1 1 0 = 1; map 0 0 3 3 = NONE; keys 0 = 1 3");
        doc.hold(LIMITED, "room again when one went", "make 1 2 0 = 0; map 0 0 1 1 = NONE; map 0 0 2 2 = NONE; "
                + "map 0 2 2 0 = 2; map 0 0 3 3 = NONE; keys 0 = 1 3");
        doc.hold(LIMITED, "LIMIT 500", "make 1 500 0 = 0\n" + Sentences.puts(0, 0, 501, 1) + "map 0 4 0 0 = 500; "
                + "map 0 10 0 0 = 1; map 0 11 0 0 = 500; map 0 3 0 0 = 0");
        doc.holdLong(LIMITED, "LIMIT 1 and 1000 keys more by op 20", "make 1 1 0 = 0; make 2 0 0 = 1; "
                + "map 0 0 -1 1 = NONE\n" + Sentences.puts(1, 0, 1000, 2)
                + "map 0 20 0 1 = 1000; keys 0 = 999; values 0 = 2");
        doc.holdLong(LIMITED, "LIMIT 1000 and 1001 keys", "make 1 1000 0 = 0\n" + Sentences.puts(0, 0, 1001, 1)
                + "map 0 4 0 0 = 1000; map 0 10 0 0 = 1; map 0 11 0 0 = 1000");
        doc.holdLong(LIMITED, "LIMIT 1000 and 1000 keys more by op 20", "make 1 1000 0 = 0; make 2 0 0 = 1\n"
                + Sentences.puts(0, 0, 1000, 1) + Sentences.puts(1, 1000, 2000, 2)
                + "map 0 20 0 1 = 1000; map 0 4 0 0 = 1000; map 0 10 0 0 = 1000; map 0 9 1 0 = 0");
    }
}
