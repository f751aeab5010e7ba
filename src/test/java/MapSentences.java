/** "Terms": what is told of map(o, op, a, b), and of CHANGES. */
final class MapSentences {
    private static final String TEN_TWENTY_THIRTY = "make 2 0 0 = 0; map 0 0 10 1 = NONE; map 0 0 20 2 = NONE; "
            + "map 0 0 30 3 = NONE\n";

    private MapSentences() {
    }

    static void holdAll(Sentences doc) {
        for (String make : Sentences.everyMap()) {
            oneKey(doc, make);
            allKeys(doc, make);
        }
        keyStays(doc);
        sums(doc);
        ends(doc);
        nearest(doc);
        same(doc);
        all(doc);
        refusedAll(doc);
        ofHash(doc);
        before(doc);
        changes(doc);
    }

    private static String on(String make) {
        return "behind " + make.strip();
    }

    private static void oneKey(Sentences doc, String make) {
        doc.hold("map(o, op, a, b); 0: a has VALUE b (its key stays as it was): VALUE before, NONE without.", on(make), make + """
                map 0 0 5 50 = NONE; map 0 0 5 51 = 50; map 0 0 5 51 = 51; map 0 0 5 0 = 51; map 0 0 5 MIN = 0
                map 0 0 5 MAX = -2147483648
                map 0 1 5 0 = 2147483647; map 0 0 0 0 = NONE; map 0 0 0 7 = 0; map 0 4 0 0 = 2
                """);
        doc.hold("1: a's VALUE or NONE.", on(make), make + "map 0 1 5 0 = NONE; map 0 0 5 0 = NONE; map 0 1 5 0 = 0; "
                + "map 0 1 6 0 = NONE; map 0 1 0 0 = NONE; map 0 4 0 0 = 1");
        doc.hold("2: a goes: VALUE or NONE.", on(make), make + """
                map 0 2 5 0 = NONE; map 0 0 5 0 = NONE; map 0 0 6 60 = NONE; map 0 2 7 0 = NONE; map 0 2 5 0 = 0
                map 0 2 5 0 = NONE; map 0 1 6 0 = 60
                map 0 2 6 0 = 60; map 0 4 0 0 = 0; map 0 2 6 0 = NONE
                """);
        doc.hold("3: 1 if a is there, else 0.", on(make), make + "map 0 3 0 0 = 0; map 0 0 0 0 = NONE; "
                + "map 0 3 0 0 = 1; map 0 3 1 0 = 0; map 0 2 0 0 = 0; map 0 3 0 0 = 0");
        doc.hold("4: size.", on(make), make + "map 0 4 9 9 = 0; map 0 0 1 1 = NONE; map 0 4 0 0 = 1; map 0 0 1 2 = 1; "
                + "map 0 4 0 0 = 1; map 0 0 2 2 = NONE; map 0 4 0 0 = 2\n"
                + "map 0 2 3 0 = NONE; map 0 4 0 0 = 2; map 0 2 1 0 = 2; map 0 4 0 0 = 1; map 0 2 2 0 = 2; "
                + "map 0 4 0 0 = 0");
        doc.hold("6: as 0, if a is not there, else nothing: VALUE before or NONE.", on(make), make + """
                map 0 6 5 0 = NONE; map 0 6 5 9 = 0; map 0 1 5 0 = 0; map 0 6 6 60 = NONE; map 0 6 6 61 = 60
                map 0 1 6 0 = 60; map 0 4 0 0 = 2
                """);
        doc.hold("7: as 0, if it is there.", on(make), make + """
                map 0 7 5 50 = NONE; map 0 3 5 0 = 0; map 0 4 0 0 = 0; map 0 0 5 0 = NONE; map 0 7 5 51 = 0
                map 0 7 5 52 = 51; map 0 1 5 0 = 52
                map 0 7 6 60 = NONE; map 0 4 0 0 = 1
                """);
        String more = "8: VALUE b more (ints), if that gives 0 it goes; "
                + "b, if a is not there: VALUE then, NONE if it went.";
        doc.hold(more, "there or not, " + on(make), make + "map 0 8 5 10 = 10; map 0 8 5 5 = 15; map 0 1 5 0 = 15; "
                + "map 0 8 5 -16 = -1; map 0 8 5 0 = -1; map 0 1 5 0 = -1; map 0 4 0 0 = 1");
        doc.hold(more, "that gives 0, " + on(make), make + "map 0 8 5 10 = 10; map 0 8 6 1 = 1; map 0 8 5 -10 = NONE; "
                + "map 0 3 5 0 = 0; map 0 4 0 0 = 1; map 0 8 5 4 = 4");
        doc.hold(more, "a wrap-around, " + on(make), make + "map 0 0 5 MAX = NONE; map 0 8 5 1 = -2147483648; "
                + "map 0 8 5 -1 = 2147483647; map 0 8 5 MAX = -2; map 0 1 5 0 = -2");
        doc.hold(more, "a wrap-around that gives 0, " + on(make), make + "map 0 0 5 MIN = NONE; map 0 8 5 MIN = NONE; "
                + "map 0 3 5 0 = 0");
        doc.hold(more, "b 0 for a key that is not there, " + on(make), make + "map 0 8 5 0 = 0; map 0 3 5 0 = 1; "
                + "map 0 1 5 0 = 0; map 0 4 0 0 = 1");
        doc.hold(more, "b 0 for a key with VALUE 0, " + on(make), make + "map 0 0 5 0 = NONE; map 0 8 5 0 = NONE; "
                + "map 0 3 5 0 = 0");
    }

    private static void allKeys(Sentences doc, String make) {
        doc.hold("5: all go: how many.", on(make), make + "map 0 5 0 0 = 0; map 0 0 1 1 = NONE; map 0 5 0 0 = 1; "
                + "map 0 4 0 0 = 0; map 0 1 1 0 = NONE; map 0 0 1 1 = NONE\n"
                + "map 0 0 2 2 = NONE; map 0 0 3 3 = NONE; map 0 5 9 9 = 3; map 0 5 0 0 = 0; keys 0 = none; "
                + "map 0 0 2 5 = NONE; map 0 4 0 0 = 1");
        doc.hold("9: how many have VALUE a.", on(make), make + """
                map 0 9 0 0 = 0; map 0 0 1 7 = NONE; map 0 0 2 0 = NONE; map 0 0 3 7 = NONE; map 0 0 7 MIN = NONE
                map 0 9 7 0 = 2; map 0 9 0 0 = 1
                map 0 9 1 0 = 0; map 0 9 MIN 0 = 1; map 0 9 MAX 0 = 0; map 0 2 3 0 = 7; map 0 9 7 0 = 1
                """);
        String more = "24: each VALUE becomes a more (ints): how many.";
        doc.hold(more, on(make), make + """
                map 0 24 5 0 = 0; map 0 0 1 10 = NONE; map 0 0 2 -5 = NONE; map 0 24 5 0 = 2; map 0 1 1 0 = 15
                map 0 1 2 0 = 0; map 0 4 0 0 = 2
                map 0 24 0 0 = 2; map 0 24 -15 0 = 2; map 0 1 1 0 = 0; map 0 1 2 0 = -15; map 0 4 0 0 = 2
                """);
        doc.hold(more, "a wrap-around, " + on(make), make + "map 0 0 1 MAX = NONE; map 0 0 2 MIN = NONE; "
                + "map 0 24 1 0 = 2; map 0 1 1 0 = -2147483648; map 0 1 2 0 = -2147483647\n"
                + "map 0 24 MIN 0 = 2; map 0 1 1 0 = 0; map 0 1 2 0 = 1");
        doc.hold("25: all keys with VALUE a go: how many.", on(make), make + """
                map 0 25 0 0 = 0; map 0 0 1 7 = NONE; map 0 0 2 8 = NONE; map 0 0 3 7 = NONE; map 0 0 4 7 = NONE
                map 0 25 9 0 = 0; map 0 4 0 0 = 4
                map 0 25 7 0 = 3; map 0 4 0 0 = 1; map 0 3 1 0 = 0; map 0 3 3 0 = 0; map 0 3 4 0 = 0; map 0 1 2 0 = 8
                map 0 25 7 0 = 0; map 0 25 8 0 = 1; map 0 4 0 0 = 0
                """);
    }

    private static void keyStays(Sentences doc) {
        String sentence = "0: a has VALUE b (its key stays as it was): VALUE before, NONE without.";
        doc.hold(sentence, "an alike key", "make 2 3 0 = 0; map 0 0 13 1 = NONE; map 0 0 3 2 = 1; keys 0 = 13; "
                + "values 0 = 2; map 0 0 -7 4 = 2; keys 0 = 13; values 0 = 4");
        doc.hold(sentence, "an alike key that comes anew", "make 2 3 0 = 0; map 0 0 13 1 = NONE; map 0 2 3 0 = 1; "
                + "map 0 0 3 2 = NONE; keys 0 = 3");
        doc.hold(sentence, "an alike key by op 6, 7, 8, 20", "make 2 3 0 = 0; map 0 0 13 1 = NONE; map 0 6 3 2 = 1; "
                + "map 0 7 23 5 = 1; map 0 8 33 1 = 6; make 1 0 0 = 1\n"
                + "map 1 0 43 9 = NONE; map 0 20 0 1 = 1; keys 0 = 13; values 0 = 9");
        doc.hold("8: VALUE b more (ints), if that gives 0 it goes", "an alike key", "make 2 3 0 = 0; "
                + "map 0 0 13 5 = NONE; map 0 8 3 -5 = NONE; keys 0 = none");
        doc.hold("2: a goes: VALUE or NONE.", "between others the order stays", "make 1 0 0 = 0\n"
                + Sentences.puts(0, 1, 6, 1) + "map 0 2 3 0 = 1; keys 0 = 1 2 4 5; map 0 2 1 0 = 1; map 0 2 5 0 = 1; "
                + "keys 0 = 2 4");
        doc.hold("25: all keys with VALUE a go: how many.", "neighbours and ends, the order stays", "make 1 0 0 = 0\n"
                + Sentences.puts(0, 1, 3, 7) + Sentences.puts(0, 3, 5, 8) + Sentences.puts(0, 5, 7, 7)
                + "map 0 25 7 0 = 4; keys 0 = 3 4");
    }

    private static void sums(Sentences doc) {
        String sentence = "18: the sum of key ^ VALUE of all (ints).";
        for (String make : Sentences.everyMap()) {
            doc.hold(sentence, on(make), make + "map 0 18 0 0 = 0; map 0 0 5 3 = NONE; map 0 18 0 0 = 6; "
                    + "map 0 0 5 5 = 3; map 0 18 0 0 = 0; map 0 0 6 -1 = NONE; map 0 18 0 0 = -7");
        }
        doc.hold(sentence, "a wrap-around above", "make 2 0 0 = 0; map 0 0 MAX 0 = NONE; map 0 18 0 0 = 2147483647; "
                + "map 0 0 0 1 = NONE; map 0 18 0 0 = -2147483648");
        doc.hold(sentence, "a wrap-around below", "make 2 0 0 = 0; map 0 0 MIN 0 = NONE; map 0 18 0 0 = -2147483648; "
                + "map 0 0 0 -1 = NONE; map 0 18 0 0 = 2147483647");
        doc.hold(sentence, "of a SUBMAP its own keys alone", "make 2 0 0 = 0; map 0 0 1 0 = NONE; map 0 0 2 0 = NONE; "
                + "map 0 0 4 0 = NONE; view 0 1 2 4 = 1; map 1 18 0 0 = 2; map 0 18 0 0 = 7");
    }

    private static void ends(Sentences doc) {
        String first = "10, 11: the first, last key; 12, 13: likewise, and it goes (10 .. 13: empty; not of HASH).";
        doc.hold(first, "of a LINKED", "make 1 0 1 = 0; map 0 0 2 1 = NONE; map 0 0 9 1 = NONE; map 0 0 1 1 = NONE; "
                + "map 0 10 0 0 = 2; map 0 11 0 0 = 1; map 0 4 0 0 = 3\n"
                + "map 0 12 0 0 = 2; keys 0 = 9 1; map 0 13 0 0 = 1; keys 0 = 9; map 0 10 0 0 = 9; map 0 11 0 0 = 9");
        doc.hold(first, "of a TREE", TEN_TWENTY_THIRTY + "map 0 10 0 0 = 10; map 0 11 0 0 = 30; map 0 4 0 0 = 3; "
                + "map 0 12 0 0 = 10; keys 0 = 20 30; map 0 13 0 0 = 30; keys 0 = 20");
        doc.hold(first, "of a SUBMAP", TEN_TWENTY_THIRTY + "view 0 2 25 0 = 1; view 1 4 0 0 = 2; map 1 10 0 0 = 10; "
                + "map 1 11 0 0 = 20; map 2 10 0 0 = 20; map 2 11 0 0 = 10\n"
                + "map 2 12 0 0 = 20; keys 0 = 10 30; map 2 13 0 0 = 10; keys 0 = 30; map 1 12 0 0 ! NoSuchElement; "
                + "map 2 13 0 0 ! NoSuchElement");
        doc.hold(first, "one alone is both", "make 1 0 0 = 0; map 0 0 5 1 = NONE; map 0 10 0 0 = 5; map 0 11 0 0 = 5; "
                + "map 0 12 0 0 = 5; map 0 12 0 0 ! NoSuchElement; map 0 0 6 1 = NONE; map 0 13 0 0 = 6\n"
                + "map 0 13 0 0 ! NoSuchElement");
        doc.hold(first, "the ends of the ints", "make 2 0 0 = 0; map 0 0 MIN 1 = NONE; map 0 0 MAX 1 = NONE; "
                + "map 0 10 0 0 = -2147483648; map 0 11 0 0 = 2147483647; map 0 13 0 0 = 2147483647; "
                + "map 0 12 0 0 = -2147483648");
        for (int op = 10; op <= 13; op++) {
            String calls = ("map 0 # 0 0 ! NoSuchElement; map 0 0 1 1 = NONE; map 0 5 0 0 = 1; map 0 # 0 0 ! NoSuchElement\n"
                    + "map 0 4 0 0 = 0").replace("#", "" + op);
            doc.hold(first, op + ": an empty LINKED", "make 1 0 0 = 0; " + calls);
            doc.hold(first, op + ": an empty TREE", "make 2 0 0 = 0; " + calls);
            doc.hold(first, op + ": a HASH",
                    ("make 0 0 0 = 0; map 0 # 0 0 ! UnsupportedOperation; map 0 0 1 1 = NONE\n"
                    + "map 0 # 0 0 ! UnsupportedOperation; keys 0 = 1").replace("#", "" + op));
        }
    }

    private static void nearest(Sentences doc) {
        String sentence = "14 .. 17: the key nearest to a that is before, before or alike, alike or behind, behind,"
                + " NONE without (TREE, SUBMAP alone).";
        doc.hold(sentence, "14: before", TEN_TWENTY_THIRTY + "map 0 14 MIN 0 = NONE; map 0 14 10 0 = NONE; "
                + "map 0 14 11 0 = 10; map 0 14 20 0 = 10; map 0 14 21 0 = 20; map 0 14 30 0 = 20; "
                + "map 0 14 31 0 = 30; map 0 14 MAX 0 = 30");
        doc.hold(sentence, "15: before or alike", TEN_TWENTY_THIRTY + "map 0 15 MIN 0 = NONE; map 0 15 9 0 = NONE; "
                + "map 0 15 10 0 = 10; map 0 15 19 0 = 10; map 0 15 20 0 = 20; map 0 15 30 0 = 30; "
                + "map 0 15 MAX 0 = 30");
        doc.hold(sentence, "16: alike or behind", TEN_TWENTY_THIRTY + "map 0 16 MIN 0 = 10; map 0 16 10 0 = 10; "
                + "map 0 16 11 0 = 20; map 0 16 30 0 = 30; map 0 16 31 0 = NONE; map 0 16 MAX 0 = NONE");
        doc.hold(sentence, "17: behind", TEN_TWENTY_THIRTY + "map 0 17 MIN 0 = 10; map 0 17 9 0 = 10; "
                + "map 0 17 10 0 = 20; map 0 17 29 0 = 30; map 0 17 30 0 = NONE; map 0 17 MAX 0 = NONE");
        doc.hold(sentence, "of none", "make 2 0 0 = 0; map 0 14 0 0 = NONE; map 0 15 0 0 = NONE; map 0 16 0 0 = NONE; "
                + "map 0 17 0 0 = NONE");
        doc.hold(sentence, "the ends of the ints", "make 2 0 0 = 0; map 0 0 MIN 1 = NONE; map 0 0 MAX 1 = NONE; "
                + "map 0 14 MIN 0 = NONE; map 0 15 MIN 0 = -2147483648; map 0 16 MIN 0 = -2147483648\n"
                + "map 0 17 MIN 0 = 2147483647; map 0 14 MAX 0 = -2147483648; map 0 15 MAX 0 = 2147483647; "
                + "map 0 16 MAX 0 = 2147483647; map 0 17 MAX 0 = NONE");
        doc.hold(sentence, "falling", TEN_TWENTY_THIRTY.replace("make 2 0", "make 2 1") + "map 0 14 30 0 = NONE; "
                + "map 0 14 20 0 = 30; map 0 15 20 0 = 20; map 0 15 31 0 = NONE; map 0 16 9 0 = NONE; "
                + "map 0 16 21 0 = 20; map 0 17 20 0 = 10; map 0 17 10 0 = NONE");
        doc.hold(sentence, "by size", "make 2 2 0 = 0; map 0 0 -5 1 = NONE; map 0 0 5 1 = NONE; map 0 0 MIN 1 = NONE; "
                + "map 0 14 5 0 = -5; map 0 14 -5 0 = NONE; map 0 17 -5 0 = 5; map 0 17 5 0 = -2147483648\n"
                + "map 0 15 -6 0 = 5; map 0 16 4 0 = -5; map 0 16 MAX 0 = -2147483648; map 0 17 MIN 0 = NONE; "
                + "map 0 14 MIN 0 = 5");
        doc.hold(sentence, "alike ones by ORDER 3", "make 2 3 0 = 0; map 0 0 13 1 = NONE; map 0 0 25 1 = NONE; "
                + "map 0 14 3 0 = NONE; map 0 15 3 0 = 13; map 0 16 33 0 = 13; map 0 17 -7 0 = 25; "
                + "map 0 14 95 0 = 13; map 0 17 5 0 = NONE");
        String part = TEN_TWENTY_THIRTY + "map 0 0 40 4 = NONE; view 0 1 15 40 = 1; view 1 4 0 0 = 2\n";
        doc.hold(sentence, "of a SUBMAP no key beside it", part + "map 1 14 20 0 = NONE; map 1 15 15 0 = NONE; "
                + "map 1 16 MIN 0 = 20; map 1 17 MIN 0 = 20; map 1 14 MAX 0 = 30; map 1 15 40 0 = 30; "
                + "map 1 16 31 0 = NONE; map 1 17 30 0 = NONE");
        doc.hold(sentence, "of a turned SUBMAP", part + "map 2 14 30 0 = NONE; map 2 14 20 0 = 30; "
                + "map 2 15 40 0 = NONE; map 2 15 MIN 0 = 20; map 2 16 MAX 0 = 30; map 2 16 19 0 = NONE; "
                + "map 2 17 30 0 = 20; map 2 17 20 0 = NONE; map 2 14 MIN 0 = 20");
        for (int op = 14; op <= 17; op++) {
            doc.hold(sentence, op + ": not of HASH, LINKED", ("make 0 0 0 = 0; make 1 0 0 = 1; map 0 0 1 1 = NONE; "
                    + "map 1 0 1 1 = NONE; map 0 # 1 0 ! UnsupportedOperation\n"
                    + "map 1 # 1 0 ! UnsupportedOperation").replace("#", "" + op));
        }
    }

    private static void same(Sentences doc) {
        String sentence = "19: 1 if MAP b has the same keys with the same VALUES (asked by b's), else 0.";
        for (String make : Sentences.everyMap()) {
            doc.hold(sentence, on(make), make + """
                    make 1 0 1 = 2; map 0 19 0 2 = 1; map 2 19 0 0 = 1; map 0 0 1 10 = NONE; map 0 19 0 2 = 0
                    map 2 19 0 0 = 0; map 2 0 1 10 = NONE
                    map 0 19 0 2 = 1; map 2 19 0 0 = 1; map 2 0 1 11 = 10; map 0 19 0 2 = 0; map 2 19 0 0 = 0
                    map 2 0 1 10 = 11; map 0 0 2 20 = NONE
                    map 2 0 3 20 = NONE; map 0 19 0 2 = 0; map 2 19 0 0 = 0; map 2 2 3 0 = 20; map 2 0 2 20 = NONE
                    map 0 19 0 2 = 1; map 2 19 0 0 = 1
                    map 0 19 0 0 = 1; map 0 2 1 0 = 10; map 0 19 0 2 = 0; map 2 19 0 0 = 0
                    """);
        }
        doc.hold(sentence, "the order does not matter", "make 1 0 0 = 0; make 1 0 0 = 1; map 0 0 1 1 = NONE; "
                + "map 0 0 2 2 = NONE; map 1 0 2 2 = NONE; map 1 0 1 1 = NONE; map 0 19 0 1 = 1");
        doc.hold(sentence, "VALUE 0 is not the same as none", "make 1 0 0 = 0; make 1 0 0 = 1; map 0 0 1 0 = NONE; "
                + "map 1 0 2 0 = NONE; map 0 19 0 1 = 0; map 1 19 0 0 = 0");
        doc.hold(sentence, "b finds alike ones, o does not", "make 0 0 0 = 0; make 2 3 0 = 1; map 0 0 3 5 = NONE; "
                + "map 1 0 13 5 = NONE; map 0 19 0 1 = 1; map 1 19 0 0 = 0");
        doc.hold(sentence, "both find alike ones", "make 2 3 0 = 0; make 2 3 0 = 1; map 0 0 3 5 = NONE; "
                + "map 1 0 13 5 = NONE; map 0 19 0 1 = 1; map 1 19 0 0 = 1");
        doc.hold(sentence, "a TREE and its SUBMAPS", "make 2 0 0 = 0; map 0 0 1 1 = NONE; map 0 0 2 2 = NONE; "
                + "view 0 4 0 0 = 1; view 0 2 2 0 = 2; view 0 3 2 0 = 3; map 0 19 0 1 = 1; map 1 19 0 0 = 1\n"
                + "map 0 19 0 2 = 0; map 2 19 0 0 = 0; map 2 19 0 3 = 0; map 2 19 0 2 = 1; map 0 2 2 0 = 2; "
                + "map 0 19 0 2 = 1; map 2 19 0 0 = 1");
        doc.hold(sentence, "a SUBMAP as b is asked for its own keys alone", "make 2 0 0 = 0; map 0 0 1 1 = NONE; "
                + "map 0 0 2 2 = NONE; view 0 2 2 0 = 1; make 1 0 0 = 2; map 2 0 2 2 = NONE; map 2 19 0 1 = 0\n"
                + "map 1 19 0 2 = 0; map 2 0 1 1 = NONE; map 2 2 2 0 = 2; map 2 19 0 1 = 1; map 1 19 0 2 = 1");
        doc.hold(sentence, "b is not there, or no MAP", "make 2 0 0 = 0; cursor 0 = 1; map 0 19 0 2 ! NoSuchElement; "
                + "map 0 19 0 16 ! NoSuchElement; map 0 19 0 -1 ! NoSuchElement; map 0 19 0 1 ! ClassCast");
    }

    private static void all(Sentences doc) {
        String sentence = "20: all of MAP b (not itself: IllegalArgumentException), in its order, by op 0, as they are";
        String three = "make 2 1 0 = 2; map 2 0 1 10 = NONE; map 2 0 2 20 = NONE; map 2 0 3 30 = NONE\n";
        for (String make : Sentences.everyMap()) {
            doc.hold(sentence, "into a new one, " + on(make), make + three + "map 0 20 0 2 = 3; map 0 4 0 0 = 3; "
                    + "map 0 1 1 0 = 10; map 0 1 2 0 = 20; map 0 1 3 0 = 30; keys 2 = 3 2 1; values 2 = 30 20 10");
            doc.hold(sentence, "some are there, " + on(make), make + three + "map 0 0 2 5 = NONE; map 0 0 4 6 = NONE; "
                    + "map 0 20 0 2 = 3; map 0 4 0 0 = 4; map 0 1 2 0 = 20; map 0 1 4 0 = 6");
            doc.hold(sentence, "all of none, " + on(make), make + "make 1 0 0 = 2; map 0 20 0 2 = 0; "
                    + "map 0 0 1 1 = NONE; map 0 20 0 2 = 0; map 0 4 0 0 = 1; cursor 0 = 3; map 0 20 0 2 = 0; "
                    + "move 3 1 0 = 1");
            doc.hold(sentence, "itself, " + on(make), make + "map 0 20 0 0 ! IllegalArgument; map 0 0 1 1 = NONE; "
                    + "map 0 20 0 0 ! IllegalArgument; map 0 4 0 0 = 1; map 0 1 1 0 = 1");
        }
        doc.hold(sentence, "in its order", "make 1 0 0 = 0; make 2 0 0 = 1; drop 1 = 1; make 0 0 0 = 1\n" + three
                + "map 0 20 0 2 = 3; keys 0 = 3 2 1");
        doc.hold(sentence, "in a turned one's order", "make 1 0 0 = 0; make 0 0 0 = 1\n" + three + "view 2 4 0 0 = 3; "
                + "map 0 20 0 3 = 3; keys 0 = 1 2 3");
        doc.hold(sentence, "in a HASH's order", "make 1 0 0 = 0; make 0 8 0 = 1; map 1 0 9 1 = NONE; "
                + "map 1 0 8 2 = NONE; map 1 0 1 3 = NONE; map 0 20 0 1 = 3; keys 0 = 8 9 1");
        doc.hold(sentence, "of alike ones the first stays with the last one's VALUE", "make 2 3 0 = 0; "
                + "make 1 0 0 = 1; map 1 0 13 1 = NONE; map 1 0 3 2 = NONE; map 1 0 23 3 = NONE; map 0 20 0 1 = 3; "
                + "keys 0 = 13; values 0 = 3");
        doc.hold(sentence, "a TREE and its SUBMAPS are not itself", TEN_TWENTY_THIRTY + "view 0 4 0 0 = 1; "
                + "view 0 2 30 0 = 2; map 0 20 0 1 = 3; map 1 20 0 0 = 3; map 0 20 0 2 = 2; map 1 20 0 2 = 2; "
                + "keys 0 = 10 20 30\n"
                + "map 1 20 0 1 ! IllegalArgument; map 2 20 0 2 ! IllegalArgument");
        doc.hold(sentence, "VALUES as they are then", "make 2 0 0 = 0; make 1 0 0 = 1; map 1 0 1 MIN = NONE; "
                + "map 1 0 MAX 0 = NONE; map 0 20 0 1 = 2; map 1 0 1 5 = -2147483648; values 0 = -2147483648 0");
    }

    private static void refusedAll(Sentences doc) {
        String sentence = "(what would be thrown is thrown before any comes: IllegalArgumentException, then full by"
                + " how many new keys would come): how many.";
        doc.hold(sentence, "the last key is none of the SUBMAP's", "make 2 0 0 = 0; view 0 2 10 0 = 1; "
                + "make 1 0 0 = 2; map 2 0 1 1 = NONE; map 2 0 2 2 = NONE; map 2 0 10 3 = NONE; "
                + "map 1 20 0 2 ! IllegalArgument\n"
                + "keys 0 = none; keys 2 = 1 2 10; map 2 2 10 0 = 3; map 1 20 0 2 = 2; keys 0 = 1 2");
        doc.hold(sentence, "the first key is none of the SUBMAP's", "make 2 0 0 = 0; view 0 3 2 0 = 1; "
                + "make 1 0 0 = 2; map 2 0 1 1 = NONE; map 2 0 2 2 = NONE; map 1 20 0 2 ! IllegalArgument; "
                + "keys 0 = none");
        doc.hold(sentence, "that the TREE has it does not help", "make 2 0 0 = 0; map 0 0 10 5 = NONE; "
                + "view 0 2 10 0 = 1; make 1 0 0 = 2; map 2 0 1 1 = NONE; map 2 0 10 3 = NONE; "
                + "map 1 20 0 2 ! IllegalArgument\n"
                + "keys 0 = 10; values 0 = 5; map 1 20 0 0 ! IllegalArgument");
        doc.hold(sentence, "keys of the SUBMAP alone are not refused, whatever else is none of its", "make 2 0 0 = 0; "
                + "view 0 3 10 0 = 1; make 1 0 0 = 2; map 2 0 12 1 = NONE; map 2 0 10 2 = NONE; map 1 20 0 2 = 2; "
                + "keys 1 = 10 12\n"
                + "view 0 2 -10 0 = 3; make 0 0 0 = 4; map 4 0 -12 1 = NONE; map 3 20 0 4 = 1; keys 0 = -12 10 12");
        doc.holdLong(sentence, "of 1000 keys that are alike by ORDER 3 nine are new", "make 2 3 0 = 0; map 0 0 0 5 = NONE; "
                + "make 1 0 0 = 1\n" + thousandWithoutLastDigit0()
                + "map 1 4 0 0 = 1000; map 0 20 0 1 = 1000; keys 0 = 0 1 2 3 4 5 6 7 8 9; values 0 = 5 7 7 7 7 7 7 7 7 7");
        doc.holdLong(sentence, "room for all of 1000", "make 2 0 0 = 0; make 1 0 0 = 1\n"
                + Sentences.puts(1, 1, 1001, 7) + "map 0 20 0 1 = 1000; map 0 4 0 0 = 1000; map 0 20 0 1 = 1000; "
                + "map 1 20 0 0 = 1000");
        for (String make : new String[] {"make 0 0 0", "make 1 0 0", "make 1 0 1", "make 2 0 0", "make 2 2 0"}) {
            String full = make + " = 0; make 1 0 0 = 1; map 1 0 0 5 = NONE; map 1 0 999 5 = NONE; "
                    + "map 1 0 1000 5 = NONE\n";
            doc.holdLong(sentence, make + ": one new key too many", full + Sentences.puts(0, 0, 999, 1)
                    + "map 0 20 0 1 ! IllegalState; map 0 4 0 0 = 999; map 0 3 999 0 = 0; map 0 1 0 0 = 1");
            doc.holdLong(sentence, make + ": as many new keys as there is room for", full
                    + Sentences.puts(0, 0, 998, 1) + "map 0 20 0 1 = 3; map 0 4 0 0 = 1000; map 0 1 0 0 = 5; "
                    + "map 0 20 0 1 = 3");
        }
        doc.holdLong(sentence, "IllegalArgumentException before full", "make 2 0 0 = 0; view 0 3 0 0 = 1; "
                + "make 1 0 0 = 2; map 2 0 5000 1 = NONE; map 2 0 -1 1 = NONE\n" + Sentences.puts(0, 0, 1000, 1)
                + "map 1 20 0 2 ! IllegalArgument; map 2 2 -1 0 = 1; map 1 20 0 2 ! IllegalState");
    }

    private static String thousandWithoutLastDigit0() {
        StringBuilder script = new StringBuilder();
        for (int key = 1; key <= 1111; key++) {
            if (key % 10 != 0) {
                script.append("map 1 0 " + key + " 7 = NONE\n");
            }
        }
        return script.toString();
    }

    private static void ofHash(Sentences doc) {
        String sentence = "21: TABLE (0 without), 22: BUSHY BINS (HASH alone).";
        doc.hold(sentence, "without, then with", "make 0 2 0 = 0; map 0 21 0 0 = 0; map 0 22 0 0 = 0; "
                + "map 0 0 1 1 = NONE; map 0 21 0 0 = 2; map 0 22 0 0 = 0; map 0 0 2 1 = NONE; map 0 21 0 0 = 4");
        doc.hold(sentence, "BUSHY BINS", "make 0 64 2 = 0\n" + Sentences.puts(0, 0, 9, 1) + "map 0 22 0 0 = 1; "
                + "map 0 21 0 0 = 64");
        doc.hold(sentence, "not of LINKED, TREE, SUBMAP", "make 1 0 0 = 0; make 2 0 0 = 1; view 1 4 0 0 = 2; "
                + "map 0 21 0 0 ! UnsupportedOperation; map 0 22 0 0 ! UnsupportedOperation\n"
                + "map 1 21 0 0 ! UnsupportedOperation; map 1 22 0 0 ! UnsupportedOperation; "
                + "map 2 21 0 0 ! UnsupportedOperation; map 2 22 0 0 ! UnsupportedOperation");
    }

    private static void before(Sentences doc) {
        String sentence = "23: how many keys are before a (TREE, SUBMAP alone).";
        doc.hold(sentence, "rising", TEN_TWENTY_THIRTY + "map 0 23 MIN 0 = 0; map 0 23 10 0 = 0; map 0 23 11 0 = 1; "
                + "map 0 23 20 0 = 1; map 0 23 30 0 = 2; map 0 23 31 0 = 3; map 0 23 MAX 0 = 3");
        doc.hold(sentence, "falling", TEN_TWENTY_THIRTY.replace("make 2 0", "make 2 1") + "map 0 23 MAX 0 = 0; "
                + "map 0 23 30 0 = 0; map 0 23 20 0 = 1; map 0 23 10 0 = 2; map 0 23 MIN 0 = 3");
        doc.hold(sentence, "by size", "make 2 2 0 = 0; map 0 0 -5 1 = NONE; map 0 0 5 1 = NONE; map 0 0 MIN 1 = NONE; "
                + "map 0 23 -5 0 = 0; map 0 23 5 0 = 1; map 0 23 -6 0 = 2; map 0 23 MAX 0 = 2; map 0 23 MIN 0 = 2");
        doc.hold(sentence, "by ORDER 3", "make 2 3 0 = 0; map 0 0 13 1 = NONE; map 0 0 25 1 = NONE; map 0 23 3 0 = 0; "
                + "map 0 23 -6 0 = 1; map 0 23 5 0 = 1; map 0 23 9 0 = 2; map 0 23 20 0 = 0");
        doc.hold(sentence, "of none", "make 2 0 0 = 0; map 0 23 0 0 = 0; map 0 23 MAX 0 = 0");
        doc.hold(sentence, "of a SUBMAP its own keys alone", TEN_TWENTY_THIRTY + "map 0 0 40 4 = NONE; "
                + "view 0 1 15 40 = 1; map 1 23 MIN 0 = 0; map 1 23 20 0 = 0; map 1 23 30 0 = 1; map 1 23 MAX 0 = 2; "
                + "view 1 4 0 0 = 2\n"
                + "map 2 23 MAX 0 = 0; map 2 23 30 0 = 0; map 2 23 20 0 = 1; map 2 23 MIN 0 = 2");
        doc.hold(sentence, "not of HASH, LINKED", "make 0 0 0 = 0; make 1 0 0 = 1; "
                + "map 0 23 0 0 ! UnsupportedOperation; map 1 23 0 0 ! UnsupportedOperation");
    }

    private static void changes(Sentences doc) {
        String sentence = "CHANGES of a MAP: how often keys came or went (each one; 5: once), and as told of LINKED.";
        String[] changing = {"map 0 0 9 1 = NONE", "map 0 2 1 0 = 5", "map 0 5 0 0 = 2", "map 0 6 9 1 = NONE",
                "map 0 8 9 1 = 1", "map 0 8 9 0 = 0", "map 0 8 1 -5 = NONE", "map 0 25 6 0 = 1", "map 0 20 0 3 = 1"};
        String[] keeping = {"map 0 0 2 9 = 6", "map 0 1 9 0 = NONE", "map 0 1 2 0 = 6", "map 0 2 9 0 = NONE",
                "map 0 3 1 0 = 1", "map 0 4 0 0 = 2", "map 0 6 2 1 = 6", "map 0 7 9 1 = NONE", "map 0 7 2 1 = 6",
            "map 0 8 2 1 = 7", "map 0 9 5 0 = 1", "map 0 18 0 0 = 8", "map 0 19 0 0 = 1", "map 0 19 0 3 = 0",
                    "map 0 24 1 0 = 2", "map 0 25 9 0 = 0", "map 3 20 0 0 = 2", "map 3 0 1 1 = NONE", "count 30 = 2"};
        for (String make : Sentences.everyMap()) {
            String start = make + "map 0 0 1 5 = NONE; map 0 0 2 6 = NONE; cursor 0 = 2; make 1 0 0 = 3; "
                    + "map 3 0 7 7 = NONE; move 2 1 0 = 1\n";
            for (String call : changing) {
                doc.hold(sentence, "by " + call + ", " + on(make), start + call + "; move 2 1 0 ! IllegalState");
            }
            for (String call : keeping) {
                doc.hold(sentence, "not by " + call + ", " + on(make), start + call + "; move 2 1 0 = 1");
            }
            doc.hold(sentence, "one that comes and goes is two, " + on(make), start + "map 0 0 9 1 = NONE; "
                    + "map 0 2 9 0 = 1; move 2 1 0 ! IllegalState");
            doc.hold(sentence, "5: once, if there is none too, " + on(make), make + "cursor 0 = 2; move 2 1 0 = 0; "
                    + "map 0 5 0 0 = 0; move 2 1 0 ! IllegalState");
        }
        for (String make : new String[] {"make 1 0 0", "make 1 0 1", "make 2 0 0"}) {
            String start = make + " = 0; map 0 0 1 5 = NONE; map 0 0 2 6 = NONE; cursor 0 = 1\n";
            doc.hold(sentence, make + ": by 12, 13, not by 10, 11", start + "map 0 10 0 0 = 1; map 0 11 0 0 = 2; "
                    + "move 1 1 0 = 1; map 0 12 0 0 = 1; move 1 1 0 ! IllegalState; cursor 0 = 2; map 0 13 0 0 = 2; "
                    + "move 2 1 0 ! IllegalState");
        }
        doc.hold(sentence, "with a LIMIT one comes and one goes", "make 1 1 0 = 0; map 0 0 1 1 = NONE; cursor 0 = 1; "
                + "map 0 0 1 2 = 1; move 1 1 0 = 1; map 0 0 2 2 = NONE; move 1 1 0 ! IllegalState");
        doc.hold(sentence, "a TABLE that is doubled is none of its own", "make 0 4 0 = 0\n"
                + Sentences.puts(0, 0, 4, 1) + "map 0 21 0 0 = 8; cursor 0 = 1; move 1 0 0 = 0; move 1 0 0 = 1");
    }
}
