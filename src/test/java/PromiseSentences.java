/** The sections "Promise 1" to "Promise 9". */
final class PromiseSentences {
    private PromiseSentences() {
    }

    static void holdAll(Sentences doc) {
        promise1(doc);
        promise2(doc);
        promise3(doc);
        promise4(doc);
        promise5And6(doc);
        promise7(doc);
        promise8(doc);
        promise9(doc);
    }

    private static void promise1(Sentences doc) {
        StringBuilder script = new StringBuilder("count 0 = 0\n");
        for (int o = 0; o < 16; o++) {
            script.append("count " + (10 + o) + " = -1; count " + (30 + o) + " = -1; drop " + o + " ! NoSuchElement; "
                    + "map " + o + " 4 0 0 ! NoSuchElement\n");
        }
        doc.hold("No OBJECTS.", "none by any number", script.toString());
        KeyAtlas first = new KeyAtlas();
        first.make(2, 0, 0);
        doc.due("No OBJECTS.", "whatever others have", new KeyAtlas().count(0), 0);
    }

    private static void promise2(Sentences doc) {
        doc.hold("A new OBJECT, kinds 0 .. 2 with a, b as told;", "each of them, without keys", "make 0 0 0 = 0; "
                + "make 1 0 0 = 1; make 2 0 0 = 2; count 0 = 3; count 10 = 0; count 11 = 1; count 12 = 2; "
                + "count 30 = 0; count 31 = 0; count 32 = 0");
        doc.hold("A new OBJECT, kinds 0 .. 2 with a, b as told;", "in a number that another had", "make 0 64 2 = 0\n"
                + Sentences.puts(0, 0, 9, 1) + "drop 0 = 1; make 0 0 2 = 0; map 0 4 0 0 = 0; map 0 21 0 0 = 0; "
                + "map 0 22 0 0 = 0; map 0 1 5 0 = NONE");
        String kind = "in this order: another kind: IllegalArgumentException;";
        for (String number : new String[] {"-1", "3", "4", "5", "MIN", "MAX"}) {
            doc.hold(kind, "kind " + number,
                    ("make # 0 0 ! IllegalArgument; make # -1 0 ! IllegalArgument; make # 0 9 ! IllegalArgument\n"
                    + "count 0 = 0").replace("#", number));
        }
        doc.hold(kind, "before full", Sentences.sixteen() + "make -1 0 0 ! IllegalArgument; "
                + "make 3 0 0 ! IllegalArgument; make 4 -1 0 ! IllegalArgument");
        String below = "a HASH with a below 0: NegativeArraySizeException;";
        doc.hold(below, "-1 and the least int", "make 0 -1 0 ! NegativeArraySize; make 0 MIN 0 ! NegativeArraySize; "
                + "make 0 0 0 = 0");
        doc.hold(below, "before b out of range", "make 0 -1 -1 ! NegativeArraySize; make 0 -1 4 ! NegativeArraySize; "
                + "make 0 MIN MAX ! NegativeArraySize; count 0 = 0");
        doc.hold(below, "before full", Sentences.sixteen() + "make 0 -1 0 ! NegativeArraySize");
        doc.hold(below, "not another KIND", "make 1 -1 0 ! IllegalArgument; make 2 -1 0 ! IllegalArgument; "
                + "count 0 = 0");
        String range = "a, b out of range: IllegalArgumentException (what a KIND has not does not matter);";
        doc.hold(range, "HASH", "make 0 1001 0 ! IllegalArgument; make 0 0 -1 ! IllegalArgument; "
                + "make 0 0 4 ! IllegalArgument; make 0 1001 4 ! IllegalArgument; make 0 1000 3 = 0");
        doc.hold(range, "LINKED", "make 1 1001 0 ! IllegalArgument; make 1 -1 0 ! IllegalArgument; "
                + "make 1 0 -1 ! IllegalArgument; make 1 0 2 ! IllegalArgument; make 1 1000 1 = 0");
        doc.hold(range, "TREE", "make 2 -1 0 ! IllegalArgument; make 2 4 0 ! IllegalArgument; make 2 3 0 = 0");
        doc.hold(range, "before full", Sentences.sixteen() + "make 0 1001 0 ! IllegalArgument; "
                + "make 0 0 4 ! IllegalArgument; make 1 -1 0 ! IllegalArgument; make 1 0 2 ! IllegalArgument; "
                + "make 2 4 0 ! IllegalArgument");
        doc.hold(range, "a TREE has no b", "make 2 0 -1 = 0; make 2 1 4 = 1; make 2 2 MIN = 2; make 2 3 MAX = 3; "
                + "map 1 0 1 1 = NONE; map 1 0 2 1 = NONE; keys 1 = 2 1");
        String full = "16 are there: full (so for view, cursor).";
        doc.hold(full, "make", Sentences.sixteen() + "make 0 0 0 ! IllegalState; make 1 0 0 ! IllegalState; "
                + "make 2 0 0 ! IllegalState; count 0 = 16");
        doc.hold(full, "view", Sentences.sixteen() + "view 0 1 0 1 ! IllegalState; view 0 2 0 0 ! IllegalState; "
                + "view 1 3 0 0 ! IllegalState; view 15 4 0 0 ! IllegalState; count 0 = 16");
        doc.hold(full, "cursor", Sentences.sixteen() + "cursor 0 ! IllegalState; cursor 1 ! IllegalState; "
                + "cursor 2 ! IllegalState; cursor 3 ! IllegalState; count 0 = 16");
        doc.hold(full, "the 16th may come", Sentences.sixteen() + "drop 15 = 1; count 0 = 15; make 0 0 0 = 15; "
                + "drop 15 = 1; view 0 4 0 0 = 15; drop 15 = 1; cursor 0 = 15; make 0 0 0 ! IllegalState; drop 0 = 4; "
                + "make 0 0 0 = 0");
        doc.hold("Answers its number.", "the least free one", "make 0 0 0 = 0; make 0 0 0 = 1; make 0 0 0 = 2; "
                + "drop 1 = 1; make 0 0 0 = 1; make 0 0 0 = 3");
    }

    private static void promise3(Sentences doc) {
        String sentence = "OBJECT o goes, with what is a part of it; how many went; "
                + "it is not there: NoSuchElementException.";
        doc.hold(sentence, "with parts", "make 2 0 0 = 0; view 0 4 0 0 = 1; cursor 1 = 2; cursor 0 = 3; "
                + "make 1 0 0 = 4; drop 1 = 2; count 0 = 3; drop 0 = 2; count 0 = 1");
        doc.hold(sentence, "gone is gone", "make 2 0 0 = 0; cursor 0 = 1; drop 0 = 2; drop 0 ! NoSuchElement; "
                + "drop 1 ! NoSuchElement; map 0 4 0 0 ! NoSuchElement; move 1 1 0 ! NoSuchElement; count 10 = -1; "
                + "count 30 = -1; count 11 = -1");
        for (String o : new String[] {"1", "15", "16", "-1", "MIN", "MAX"}) {
            doc.hold(sentence, o + " is not there", "make 2 0 0 = 0; drop " + o + " ! NoSuchElement; count 0 = 1");
        }
        doc.hold(sentence, "all sixteen", Sentences.sixteen() + "drop 15 = 1; drop 0 = 3; drop 2 = 1; drop 3 = 1; "
                + "drop 5 = 1; count 0 = 9");
    }

    private static void promise4(Sentences doc) {
        String sentence = "An op 0 .. 25 on MAP o with a, b, as told of MAPS; what that answers; "
                + "what is thrown is told there.";
        doc.hold(sentence, "0 is the first, 25 the last", "make 2 0 0 = 0; map 0 -1 1 1 ! IllegalArgument; "
                + "map 0 0 1 1 = NONE; map 0 25 1 0 = 1; map 0 26 1 1 ! IllegalArgument; map 0 4 0 0 = 0");
        doc.hold(sentence, "not on a CURSOR", "make 2 0 0 = 0; cursor 0 = 1; map 1 0 1 1 ! ClassCast; "
                + "map 1 25 1 1 ! ClassCast; map 2 0 1 1 ! NoSuchElement");
    }

    private static void promise5And6(Sentences doc) {
        String view = "A SUBMAP of TREE or SUBMAP o, of a kind, with a, b, as told; its number.";
        doc.hold(view, "kinds 1 .. 4", "make 2 0 0 = 0; view 0 0 1 2 ! IllegalArgument; view 0 1 1 2 = 1; "
                + "view 1 2 1 2 = 2; view 2 3 1 2 = 3; view 3 4 1 2 = 4; view 0 5 1 2 ! IllegalArgument; "
                + "count 11 = 3; count 14 = 3; count 0 = 5");
        doc.hold(view, "of what is not there", "view 0 4 0 0 ! NoSuchElement; view -1 4 0 0 ! NoSuchElement; "
                + "view 16 4 0 0 ! NoSuchElement; make 2 0 0 = 0; view 1 4 0 0 ! NoSuchElement");
        doc.hold(view, "of what has none", "make 0 0 0 = 0; make 1 0 0 = 1; cursor 0 = 2; view 0 4 0 0 ! ClassCast; "
                + "view 1 4 0 0 ! ClassCast; view 2 4 0 0 ! ClassCast");
        String cursor = "A CURSOR of MAP o before its first key; its number.";
        doc.hold(cursor, "of every MAP", "make 0 0 0 = 0; make 1 0 0 = 1; make 2 0 0 = 2; view 2 4 0 0 = 3; "
                + "map 0 0 5 1 = NONE; map 1 0 6 1 = NONE; map 2 0 7 1 = NONE; cursor 0 = 4; cursor 1 = 5; "
                + "cursor 2 = 6; cursor 3 = 7\n"
                + "move 4 0 0 = 5; move 5 0 0 = 6; move 6 0 0 = 7; move 7 0 0 = 7; count 17 = 4; count 37 = -1");
        doc.hold(cursor, "of what is not there, or has none", "cursor 0 ! NoSuchElement; cursor -1 ! NoSuchElement; "
                + "cursor 16 ! NoSuchElement; make 2 0 0 = 0; cursor 0 = 1; cursor 1 ! ClassCast; "
                + "cursor 2 ! NoSuchElement; count 0 = 2");
    }

    private static void promise7(Sentences doc) {
        String sentence = "An op 0 .. 4 on CURSOR c with a, as told; what that answers; STALE: IllegalStateException.";
        doc.hold(sentence, "0 is the first, 4 the last", "make 2 0 0 = 0; map 0 0 1 10 = NONE; cursor 0 = 1; "
                + "move 1 -1 0 ! IllegalArgument; move 1 0 0 = 1; move 1 4 0 = 10; move 1 5 0 ! IllegalArgument; "
                + "move 1 MIN 0 ! IllegalArgument; move 1 MAX 0 ! IllegalArgument; move 1 1 0 = 0");
        doc.hold(sentence, "STALE", "make 2 0 0 = 0; map 0 0 1 10 = NONE; cursor 0 = 1; move 1 0 0 = 1; "
                + "map 0 0 2 1 = NONE; move 1 0 0 ! IllegalState; move 1 1 0 ! IllegalState; "
                + "move 1 2 0 ! IllegalState; move 1 3 0 ! IllegalState; move 1 4 0 ! IllegalState; values 0 = 10 1");
        doc.hold(sentence, "of what is not there, or no CURSOR", "move 0 0 0 ! NoSuchElement; "
                + "move -1 0 0 ! NoSuchElement; move 16 0 0 ! NoSuchElement; make 0 0 0 = 0; make 1 0 0 = 1; "
                + "make 2 0 0 = 2; view 2 4 0 0 = 3; move 0 0 0 ! ClassCast; move 1 0 0 ! ClassCast; "
                + "move 2 0 0 ! ClassCast; move 3 0 0 ! ClassCast; move 4 0 0 ! NoSuchElement");
    }

    private static void promise8(Sentences doc) {
        String sentence = "Key i (from 0) of a MAP in its order, part 1: its VALUE; "
                + "there is none: IndexOutOfBoundsException.";
        doc.hold(sentence, "the first is 0, the last size - 1", "make 1 0 0 = 0; map 0 0 7 70 = NONE; "
                + "map 0 0 3 30 = NONE; map 0 0 5 50 = NONE; item 0 0 0 = 7; item 0 0 1 = 70; item 0 1 0 = 3; "
                + "item 0 2 0 = 5; item 0 2 1 = 50; item 0 3 0 ! IndexOutOfBounds; item 0 3 1 ! IndexOutOfBounds");
        for (String i : new String[] {"-1", "1", "MIN", "MAX"}) {
            doc.hold(sentence, "i " + i + " of one key", "make 0 0 0 = 0; make 1 0 0 = 1; make 2 0 0 = 2; "
                    + "view 2 4 0 0 = 3; map 0 0 5 1 = NONE; map 1 0 5 1 = NONE; map 2 0 5 1 = NONE\n"
                    + ("item 0 # 0 ! IndexOutOfBounds; item 1 # 0 ! IndexOutOfBounds; item 2 # 0 ! IndexOutOfBounds\n"
                    + "item 3 # 1 ! IndexOutOfBounds; item 0 0 0 = 5").replace("#", i));
        }
        doc.hold(sentence, "of no key", "make 0 0 0 = 0; make 1 0 0 = 1; make 2 0 0 = 2; view 2 4 0 0 = 3; "
                + "item 0 0 0 ! IndexOutOfBounds; item 1 0 0 ! IndexOutOfBounds; item 2 0 1 ! IndexOutOfBounds; "
                + "item 3 0 0 ! IndexOutOfBounds");
        doc.hold(sentence, "of a SUBMAP no key beside it", "make 2 0 0 = 0\n" + Sentences.puts(0, 1, 6, 1)
                + "view 0 1 2 4 = 1; item 1 0 0 = 2; item 1 1 0 = 3; item 1 2 0 ! IndexOutOfBounds; "
                + "item 1 -1 0 ! IndexOutOfBounds; view 1 4 0 0 = 2; item 2 0 0 = 3; item 2 1 0 = 2; "
                + "item 2 2 0 ! IndexOutOfBounds; item 2 -1 0 ! IndexOutOfBounds");
        doc.hold(sentence, "other parts", "make 2 0 0 = 0; map 0 0 1 1 = NONE; item 0 0 -1 ! IllegalArgument; "
                + "item 0 0 2 ! IllegalArgument; item 0 0 MIN ! IllegalArgument; item 0 0 MAX ! IllegalArgument; "
                + "item 0 9 2 ! IllegalArgument");
        doc.hold(sentence, "of what is not there, or no MAP", "item 0 0 0 ! NoSuchElement; "
                + "item -1 0 0 ! NoSuchElement; item 16 0 0 ! NoSuchElement; make 2 0 0 = 0; cursor 0 = 1; "
                + "item 1 0 0 ! ClassCast");
        doc.hold("(LINKED stays as it is.)", "with b 1", "make 1 0 1 = 0; map 0 0 1 10 = NONE; map 0 0 2 20 = NONE; "
                + "cursor 0 = 1; item 0 0 0 = 1; item 0 0 1 = 10; item 0 0 0 = 1; item 0 1 0 = 2; move 1 0 0 = 1");
    }

    private static void promise9(Sentences doc) {
        String objects = "what 0: OBJECTS;";
        doc.hold(objects, "none, some, all", "count 0 = 0; make 2 0 0 = 0; count 0 = 1; view 0 4 0 0 = 1; "
                + "count 0 = 2; cursor 1 = 2; count 0 = 3; drop 1 = 2; count 0 = 1; drop 0 = 1; count 0 = 0");
        doc.hold(objects, "sixteen", Sentences.sixteen() + "count 0 = 16");
        String kinds = "10 ..: KIND of OBJECT what - 10 (-1 for none), up to 25;";
        doc.hold(kinds, "every KIND and none", "make 0 0 0 = 0; make 1 0 0 = 1; make 2 0 0 = 2; view 2 4 0 0 = 3; "
                + "cursor 3 = 4; count 10 = 0; count 11 = 1; count 12 = 2; count 13 = 3; count 14 = 4; count 15 = -1; "
                + "count 25 = -1; drop 2 = 3; count 12 = -1; count 13 = -1");
        doc.hold(kinds, "the last one", Sentences.sixteen() + "count 25 = 2; drop 15 = 1; count 25 = -1");
        doc.hold(kinds, "9 and 26 are none of these", Sentences.sixteen() + "count 9 ! IllegalArgument; "
                + "count 26 ! IllegalArgument");
        String sizes = "30 .. 45: its size (MAPS; -1 for others).";
        doc.hold(sizes, "every KIND and none", "make 0 0 0 = 0; make 1 0 0 = 1; make 2 0 0 = 2; view 2 2 2 0 = 3; "
                + "cursor 3 = 4; map 0 0 1 1 = NONE; map 1 0 1 1 = NONE; map 1 0 2 1 = NONE; map 2 0 1 1 = NONE; "
                + "map 2 0 2 1 = NONE; map 2 0 3 1 = NONE\n"
                + "count 30 = 1; count 31 = 2; count 32 = 3; count 33 = 1; count 34 = -1; count 35 = -1; "
                + "count 45 = -1; map 2 5 0 0 = 3; count 32 = 0; count 33 = 0");
        doc.hold(sizes, "the last one", Sentences.sixteen() + "map 15 0 1 1 = NONE; count 45 = 1; drop 15 = 1; "
                + "count 45 = -1");
        doc.hold(sizes, "29 and 46 are none of these", Sentences.sixteen() + "count 29 ! IllegalArgument; "
                + "count 46 ! IllegalArgument");
        for (String what : new String[] {"MIN", "-1", "1", "9", "26", "29", "46", "MAX"}) {
            doc.hold(objects, what + " is no what", "make 0 0 0 = 0; count " + what + " ! IllegalArgument");
        }
    }
}
