/** "Terms": what is told of view and of drop. */
final class ViewSentences {
    private static final String FIVE = "make 2 0 0 = 0; map 0 0 1 10 = NONE; map 0 0 2 20 = NONE; "
            + "map 0 0 3 30 = NONE; map 0 0 4 40 = NONE; map 0 0 5 50 = NONE\n";
    private static final String TURNED = FIVE + "view 0 4 0 0 = 1\n";
    private static final String FROM_TO = "view(o, kind, a, b), o TREE or SUBMAP: kind 1: from a to before b"
            + " in its order (b before a: IllegalArgumentException);";
    private static final String KINDS = "2: before a; 3: a and behind; "
            + "4: all, turned round: SUBMAP of just those keys of o, that are or come.";

    private ViewSentences() {
    }

    static void holdAll(Sentences doc) {
        fromTo(doc);
        fromToInOrders(doc);
        beforeAndBehind(doc);
        turned(doc);
        thatAreOrCome(doc);
        partsOfParts(doc);
        noneOfThese(doc);
        drop(doc);
    }

    private static void fromTo(Sentences doc) {
        doc.hold(FROM_TO, "a is in, b is not", FIVE + "view 0 1 2 4 = 1; keys 1 = 2 3; values 1 = 20 30");
        doc.hold(FROM_TO, "bounds that are no keys", FIVE + "view 0 1 0 9 = 1; keys 1 = 1 2 3 4 5; "
                + "view 0 1 MIN MAX = 2; keys 2 = 1 2 3 4 5; view 0 1 6 9 = 3; keys 3 = none; view 0 1 -9 1 = 4; "
                + "keys 4 = none");
        doc.hold(FROM_TO, "a and b the same: no key", FIVE + "view 0 1 3 3 = 1; keys 1 = none; "
                + "map 1 0 3 1 ! IllegalArgument; map 1 4 0 0 = 0; view 0 1 MIN MIN = 2; view 0 1 MAX MAX = 3; "
                + "keys 2 = none; keys 3 = none");
        doc.hold(FROM_TO, "b before a", FIVE + "view 0 1 3 2 ! IllegalArgument; view 0 1 MAX MIN ! IllegalArgument; "
                + "view 0 1 0 -1 ! IllegalArgument; count 0 = 1");
        doc.hold(FROM_TO, "the ends of the ints", "make 2 0 0 = 0; map 0 0 MIN 1 = NONE; map 0 0 MAX 2 = NONE; "
                + "view 0 1 MIN MAX = 1; keys 1 = -2147483648; view 0 1 -2147483647 MAX = 2; keys 2 = none");
        doc.hold(FROM_TO, "o a HASH, LINKED or CURSOR", "make 0 0 0 = 0; make 1 0 0 = 1; cursor 0 = 2; "
                + "view 0 1 1 2 ! ClassCast; view 1 1 1 2 ! ClassCast; view 2 1 1 2 ! ClassCast; count 0 = 3");
        doc.hold(FROM_TO, "of a turned SUBMAP in its order", TURNED + "view 1 1 4 2 = 2; keys 2 = 4 3; "
                + "view 1 1 2 4 ! IllegalArgument; view 1 1 MAX MIN = 3; keys 3 = 5 4 3 2 1; "
                + "view 1 1 MIN MAX ! IllegalArgument; view 1 1 3 3 = 4; keys 4 = none");
        doc.hold(FROM_TO, "the order of a SUBMAP that is turned twice", TURNED + "view 1 4 0 0 = 2; view 2 1 2 4 = 3; "
                + "keys 3 = 2 3; view 2 1 4 2 ! IllegalArgument");
    }

    private static void fromToInOrders(Sentences doc) {
        doc.hold(FROM_TO, "falling", FIVE.replace("make 2 0", "make 2 1") + "view 0 1 4 2 = 1; keys 1 = 4 3; "
                + "view 0 1 2 4 ! IllegalArgument; view 0 1 MAX MIN = 2; keys 2 = 5 4 3 2 1; view 0 1 3 3 = 3; "
                + "keys 3 = none");
        doc.hold(FROM_TO, "by size", "make 2 2 0 = 0; map 0 0 -2 1 = NONE; map 0 0 2 1 = NONE; map 0 0 3 1 = NONE; "
                + "map 0 0 MIN 1 = NONE; view 0 1 -2 2 = 1; keys 1 = -2; view 0 1 2 -2 ! IllegalArgument; "
                + "view 0 1 2 -3 = 2; keys 2 = 2\n"
                + "view 0 1 3 MIN = 3; keys 3 = 3; view 0 1 MIN 3 ! IllegalArgument; view 0 1 MAX MIN = 4; "
                + "keys 4 = none; view 0 1 0 MIN = 5; keys 5 = -2 2 3");
        doc.hold(FROM_TO, "by ORDER 3", "make 2 3 0 = 0; map 0 0 11 1 = NONE; map 0 0 25 1 = NONE; "
                + "map 0 0 39 1 = NONE; view 0 1 1 5 = 1; keys 1 = 11; view 0 1 95 11 ! IllegalArgument; "
                + "view 0 1 11 -4 = 2; keys 2 = 11 25\n"
                + "view 0 1 15 25 = 3; keys 3 = none; view 0 1 25 15 = 4; keys 4 = none; "
                + "view 0 1 9 0 ! IllegalArgument; view 0 1 0 9 = 5; keys 5 = 11 25");
        doc.hold(FROM_TO, "by ORDER 3, turned", "make 2 3 0 = 0; map 0 0 11 1 = NONE; map 0 0 25 1 = NONE; "
                + "map 0 0 39 1 = NONE; view 0 4 0 0 = 1; keys 1 = 39 25 11; view 1 1 9 1 = 2; keys 2 = 39 25; "
                + "view 1 1 1 9 ! IllegalArgument\n"
                + "view 1 1 15 1 = 3; keys 3 = 25; view 1 1 5 95 = 4; keys 4 = none; view 1 1 8 0 = 5; keys 5 = 25 11");
    }

    private static void beforeAndBehind(Sentences doc) {
        doc.hold(KINDS, "2: a is not in", FIVE + "view 0 2 3 0 = 1; keys 1 = 1 2; view 0 2 1 0 = 2; keys 2 = none; "
                + "view 0 2 6 0 = 3; keys 3 = 1 2 3 4 5; view 0 2 MIN 0 = 4; keys 4 = none; view 0 2 MAX 0 = 5; "
                + "keys 5 = 1 2 3 4 5");
        doc.hold(KINDS, "3: a is in", FIVE + "view 0 3 3 0 = 1; keys 1 = 3 4 5; view 0 3 5 0 = 2; keys 2 = 5; "
                + "view 0 3 6 0 = 3; keys 3 = none; view 0 3 MIN 0 = 4; keys 4 = 1 2 3 4 5; view 0 3 MAX 0 = 5; "
                + "keys 5 = none");
        doc.hold(KINDS, "2, 3 at the ends of the ints", "make 2 0 0 = 0; map 0 0 MIN 1 = NONE; map 0 0 MAX 2 = NONE; "
                + "view 0 2 MIN 0 = 1; keys 1 = none; view 0 2 MAX 0 = 2; keys 2 = -2147483648; view 0 3 MIN 0 = 3; "
                + "keys 3 = -2147483648 2147483647\n"
                + "view 0 3 MAX 0 = 4; keys 4 = 2147483647");
        doc.hold(KINDS, "2, 3 of a turned one, in its order", TURNED + "view 1 2 3 0 = 2; keys 2 = 5 4; "
                + "view 1 3 3 0 = 3; keys 3 = 3 2 1; view 1 2 5 0 = 4; keys 4 = none; view 1 3 5 0 = 5; "
                + "keys 5 = 5 4 3 2 1; view 1 2 0 0 = 6; keys 6 = 5 4 3 2 1; view 1 3 0 0 = 7; keys 7 = none");
        doc.hold(KINDS, "2, 3 of a falling one", FIVE.replace("make 2 0", "make 2 1") + "view 0 2 3 0 = 1; "
                + "keys 1 = 5 4; view 0 3 3 0 = 2; keys 2 = 3 2 1");
        doc.hold(KINDS, "2, 3 by size", "make 2 2 0 = 0; map 0 0 -2 1 = NONE; map 0 0 2 1 = NONE; "
                + "map 0 0 MIN 1 = NONE; view 0 2 2 0 = 1; keys 1 = -2; view 0 3 2 0 = 2; keys 2 = 2 -2147483648; "
                + "view 0 2 MIN 0 = 3; keys 3 = -2 2; view 0 3 MIN 0 = 4; keys 4 = -2147483648");
        doc.hold(KINDS, "2, 3 by ORDER 3", "make 2 3 0 = 0; map 0 0 11 1 = NONE; map 0 0 25 1 = NONE; "
                + "view 0 2 5 0 = 1; keys 1 = 11; view 0 3 -5 0 = 2; keys 2 = 25; view 0 2 10 0 = 3; keys 3 = none; "
                + "view 0 3 9 0 = 4; keys 4 = none");
        doc.hold(KINDS, "b does not matter to 2, 3, nor a, b to 4", FIVE + "view 0 2 3 MIN = 1; view 0 3 3 MIN = 2; "
                + "view 0 4 MAX MIN = 3; keys 1 = 1 2; keys 2 = 3 4 5; keys 3 = 5 4 3 2 1");
    }

    private static void turned(Sentences doc) {
        doc.hold(KINDS, "4: all of none, of one, of five", "make 2 0 0 = 0; view 0 4 0 0 = 1; keys 1 = none; "
                + "map 0 0 1 10 = NONE; keys 1 = 1; map 0 0 2 20 = NONE; map 0 0 3 30 = NONE; keys 1 = 3 2 1; "
                + "values 1 = 30 20 10");
        doc.hold("Its order is o's, with 4 turned.", "kinds 1, 2, 3 of a TREE", FIVE + "view 0 1 2 5 = 1; "
                + "keys 1 = 2 3 4; view 0 2 4 0 = 2; keys 2 = 1 2 3; view 0 3 4 0 = 3; keys 3 = 4 5");
        doc.hold("Its order is o's, with 4 turned.", "kinds 1, 2, 3, 4 of a turned one", TURNED + "view 1 1 5 2 = 2; "
                + "keys 2 = 5 4 3; view 1 2 3 0 = 3; keys 3 = 5 4; view 1 3 3 0 = 4; keys 4 = 3 2 1; "
                + "view 1 4 0 0 = 5; keys 5 = 1 2 3 4 5");
        doc.hold("Its order is o's, with 4 turned.", "turned ends and neighbours", TURNED + "map 1 10 0 0 = 5; "
                + "map 1 11 0 0 = 1; map 1 14 3 0 = 4; map 1 15 3 0 = 3; map 1 16 3 0 = 3; map 1 17 3 0 = 2; "
                + "map 1 23 3 0 = 2; map 1 12 0 0 = 5; map 1 13 0 0 = 1; keys 0 = 2 3 4");
        doc.hold("Its order is o's, with 4 turned.", "turned thrice", TURNED + "view 1 4 0 0 = 2; view 2 4 0 0 = 3; "
                + "keys 3 = 5 4 3 2 1; view 3 2 2 0 = 4; keys 4 = 5 4 3");
    }

    private static void thatAreOrCome(Sentences doc) {
        doc.hold(KINDS, "keys that come by o", "make 2 0 0 = 0; view 0 1 10 20 = 1; map 0 0 9 1 = NONE; "
                + "map 0 0 10 1 = NONE; map 0 0 19 1 = NONE; map 0 0 20 1 = NONE; keys 1 = 10 19; map 0 2 10 0 = 1; "
                + "keys 1 = 19; map 0 5 0 0 = 3; keys 1 = none");
        doc.hold(KINDS, "keys that come by the SUBMAP", "make 2 0 0 = 0; view 0 1 10 20 = 1; map 1 0 10 1 = NONE; "
                + "map 1 6 15 2 = NONE; map 1 8 19 3 = 3; keys 0 = 10 15 19; values 0 = 1 2 3; map 1 2 15 0 = 2; "
                + "keys 0 = 10 19; map 1 8 19 -3 = NONE; keys 0 = 10");
        doc.hold(KINDS, "keys of o beside it are none of its", "make 2 0 0 = 0; map 0 0 9 1 = NONE; "
                + "map 0 0 20 1 = NONE; view 0 1 10 20 = 1; map 1 1 9 0 = NONE; map 1 1 20 0 = NONE; "
                + "map 1 2 9 0 = NONE; map 1 3 20 0 = 0; map 1 7 9 5 = NONE; map 1 4 0 0 = 0\n"
                + "map 1 9 1 0 = 0; map 1 24 1 0 = 0; map 1 25 1 0 = 0; map 1 18 0 0 = 0; "
                + "item 1 0 0 ! IndexOutOfBounds; map 1 5 0 0 = 0; keys 0 = 9 20; values 0 = 1 1");
        doc.hold(KINDS, "its VALUES are o's", FIVE + "view 0 1 2 4 = 1; map 1 0 2 21 = 20; map 1 7 3 31 = 30; "
                + "map 1 24 1 0 = 2; values 0 = 10 22 32 40 50; map 0 24 1 0 = 5; values 1 = 23 33");
        doc.hold(KINDS, "all of it go: others stay", FIVE + "view 0 1 2 4 = 1; map 1 5 0 0 = 2; keys 0 = 1 4 5; "
                + "map 1 5 0 0 = 0; keys 0 = 1 4 5; view 0 4 0 0 = 2; map 2 5 0 0 = 3; keys 0 = none");
        doc.hold(KINDS, "some of it go: others stay", FIVE + "map 0 0 1 7 = 10; map 0 0 2 7 = 20; map 0 0 4 7 = 40; "
                + "map 0 0 5 7 = 50; view 0 1 2 5 = 1; view 1 4 0 0 = 2; map 2 25 7 0 = 2; keys 0 = 1 3 5");
    }

    private static void partsOfParts(Sentences doc) {
        doc.hold(KINDS, "of a SUBMAP just its keys", FIVE + "view 0 1 2 5 = 1; view 1 1 0 9 = 2; keys 2 = 2 3 4; "
                + "view 1 2 9 0 = 3; keys 3 = 2 3 4; view 1 3 0 0 = 4; keys 4 = 2 3 4; view 1 4 0 0 = 5; "
                + "keys 5 = 4 3 2; view 5 1 9 0 = 6; keys 6 = 4 3 2\n"
                + "view 5 2 0 0 = 7; keys 7 = 4 3 2; view 5 3 9 0 = 8; keys 8 = 4 3 2");
        doc.hold(KINDS, "a smaller part of a SUBMAP", FIVE + "view 0 1 2 5 = 1; view 1 1 3 9 = 2; keys 2 = 3 4; "
                + "view 1 2 4 0 = 3; keys 3 = 2 3; view 1 3 4 0 = 4; keys 4 = 4; view 2 2 4 0 = 5; keys 5 = 3; "
                + "view 1 4 0 0 = 6; view 6 2 2 0 = 7; keys 7 = 4 3; view 7 3 3 0 = 8; keys 8 = 3");
        doc.hold(KINDS, "a part beside the SUBMAP has no key", FIVE + "view 0 1 2 4 = 1; view 1 3 4 0 = 2; "
                + "keys 2 = none; map 2 0 4 1 ! IllegalArgument; view 1 2 2 0 = 3; keys 3 = none; "
                + "map 3 0 1 1 ! IllegalArgument; view 1 1 5 9 = 4; keys 4 = none\n"
                + "map 4 0 5 1 ! IllegalArgument; view 1 1 -9 1 = 5; keys 5 = none; map 5 0 0 1 ! IllegalArgument; "
                + "map 5 0 3 1 ! IllegalArgument; view 5 4 0 0 = 6; map 6 4 0 0 = 0; map 6 5 0 0 = 0; "
                + "map 6 14 9 0 = NONE; map 6 17 9 0 = NONE\n"
                + "map 6 23 0 0 = 0; keys 0 = 1 2 3 4 5");
        doc.hold("Its number.", "the least free one", "make 2 0 0 = 0; view 0 4 0 0 = 1; view 1 4 0 0 = 2; "
                + "drop 1 = 2; make 0 0 0 = 1; view 0 2 1 0 = 2; count 12 = 3");
    }

    private static void noneOfThese(Sentences doc) {
        String sentence = "A key that would come and is none of these: IllegalArgumentException.";
        String part = "make 2 0 0 = 0; view 0 1 10 20 = 1\n";
        for (String key : new String[] {"9", "20", "MIN", "MAX"}) {
            doc.hold(sentence, key + " to 10 .. before 20", part + ("map 1 0 # 1 ! IllegalArgument; "
                    + "map 1 6 # 1 ! IllegalArgument; map 1 8 # 1 ! IllegalArgument; map 1 8 # 0 ! IllegalArgument; "
                    + "map 0 4 0 0 = 0").replace("#", key));
        }
        for (String key : new String[] {"10", "19"}) {
            doc.hold(sentence, key + " may come to 10 .. before 20", part
                    + "map 1 0 # 1 = NONE; map 0 1 # 0 = 1".replace("#", key));
        }
        doc.hold(sentence, "a key that does not come is asked for all the same", part + "map 1 1 9 0 = NONE; "
                + "map 1 2 9 0 = NONE; map 1 3 9 0 = 0; map 1 7 9 1 = NONE; map 1 14 9 0 = NONE; map 1 23 99 0 = 0");
        doc.hold(sentence, "that o has it does not matter", part + "map 0 0 9 5 = NONE; "
                + "map 1 0 9 1 ! IllegalArgument; map 1 6 9 1 ! IllegalArgument; map 1 8 9 1 ! IllegalArgument; "
                + "map 1 8 9 -5 ! IllegalArgument; map 1 7 9 1 = NONE; values 0 = 5");
        doc.hold(sentence, "kind 2", "make 2 0 0 = 0; view 0 2 10 0 = 1; map 1 0 9 1 = NONE; map 1 0 MIN 1 = NONE; "
                + "map 1 0 10 1 ! IllegalArgument; map 1 0 MAX 1 ! IllegalArgument");
        doc.hold(sentence, "kind 3", "make 2 0 0 = 0; view 0 3 10 0 = 1; map 1 0 10 1 = NONE; map 1 0 MAX 1 = NONE; "
                + "map 1 0 9 1 ! IllegalArgument; map 1 0 MIN 1 ! IllegalArgument");
        doc.hold(sentence, "kind 4: none is refused", "make 2 0 0 = 0; view 0 4 0 0 = 1; map 1 0 MIN 1 = NONE; "
                + "map 1 0 MAX 1 = NONE; map 1 0 0 1 = NONE; keys 1 = 2147483647 0 -2147483648");
        doc.hold(sentence, "kinds 1, 2, 3 of a turned one", "make 2 0 0 = 0; view 0 4 0 0 = 1; view 1 1 20 10 = 2; "
                + "map 2 0 20 1 = NONE; map 2 0 11 1 = NONE; map 2 0 10 1 ! IllegalArgument; "
                + "map 2 0 21 1 ! IllegalArgument; view 1 2 10 0 = 3\n"
                + "map 3 0 11 2 = 1; map 3 0 MAX 1 = NONE; map 3 0 10 1 ! IllegalArgument; view 1 3 10 0 = 4; "
                + "map 4 0 10 1 = NONE; map 4 0 MIN 1 = NONE; map 4 0 11 1 ! IllegalArgument");
        doc.hold(sentence, "by size", "make 2 2 0 = 0; view 0 1 -5 5 = 1; map 1 0 -5 1 = NONE; "
                + "map 1 0 5 1 ! IllegalArgument; map 1 0 -4 1 ! IllegalArgument; map 1 0 4 1 ! IllegalArgument; "
                + "view 0 2 MIN 0 = 2; map 2 0 MAX 1 = NONE; map 2 0 MIN 1 ! IllegalArgument");
        doc.hold(sentence, "by ORDER 3", "make 2 3 0 = 0; view 0 1 2 5 = 1; map 1 0 12 1 = NONE; map 1 0 24 1 = NONE; "
                + "map 1 0 5 1 ! IllegalArgument; map 1 0 1 1 ! IllegalArgument; map 1 0 -5 1 ! IllegalArgument; "
                + "map 1 0 -6 1 = 1");
        doc.hold(sentence, "of a part of a part: of both", part + "view 1 3 15 0 = 2; map 2 0 15 1 = NONE; "
                + "map 2 0 19 1 = NONE; map 2 0 14 1 ! IllegalArgument; map 2 0 20 1 ! IllegalArgument; "
                + "map 1 0 14 1 = NONE");
    }

    private static void drop(Sentences doc) {
        String sentence = "drop(o): it goes, and all SUBMAPS, CURSORS of it, however many between: how many OBJECTS.";
        doc.hold(sentence, "one alone", "make 0 0 0 = 0; make 1 0 0 = 1; drop 0 = 1; count 0 = 1; count 10 = -1; "
                + "count 11 = 1; drop 1 = 1; count 0 = 0");
        doc.hold(sentence, "a MAP with its CURSORS", "make 0 0 0 = 0; cursor 0 = 1; cursor 0 = 2; make 0 0 0 = 3; "
                + "cursor 3 = 4; drop 0 = 3; count 0 = 2; move 4 1 0 = 0");
        doc.hold(sentence, "a CURSOR alone", "make 0 0 0 = 0; map 0 0 1 1 = NONE; cursor 0 = 1; cursor 0 = 2; "
                + "drop 1 = 1; move 2 0 0 = 1; map 0 4 0 0 = 1");
        doc.hold(sentence, "a SUBMAP leaves its TREE and others", "make 2 0 0 = 0; map 0 0 1 1 = NONE; "
                + "view 0 4 0 0 = 1; view 0 4 0 0 = 2; cursor 1 = 3; cursor 0 = 4; drop 1 = 2; map 0 4 0 0 = 1; "
                + "map 2 4 0 0 = 1; move 4 0 0 = 1; count 0 = 3");
        doc.hold(sentence, "however many between", "make 2 0 0 = 0; view 0 4 0 0 = 1; view 1 4 0 0 = 2; "
                + "view 2 4 0 0 = 3; cursor 3 = 4; make 2 0 0 = 5; drop 0 = 5; count 0 = 1; count 15 = 2");
        doc.hold(sentence, "parts with lesser numbers", "make 0 0 0 = 0; make 0 0 0 = 1; make 2 0 0 = 2; drop 1 = 1; "
                + "view 2 4 0 0 = 1; drop 0 = 1; view 1 4 0 0 = 0; cursor 0 = 3; drop 2 = 4; count 0 = 0");
        doc.hold(sentence, "another OBJECT in a part's number is no part", "make 2 0 0 = 0; view 0 4 0 0 = 1; "
                + "drop 1 = 1; make 2 0 0 = 1; cursor 1 = 2; drop 0 = 1; count 0 = 2; move 2 1 0 = 0");
        StringBuilder chain = new StringBuilder("make 2 0 0 = 0\n");
        for (int o = 1; o < 15; o++) {
            chain.append("view " + (o - 1) + " 4 0 0 = " + o + "\n");
        }
        doc.hold(sentence, "sixteen in a chain", chain + "cursor 14 = 15; drop 0 = 16; count 0 = 0; make 0 0 0 = 0");
        doc.hold(sentence, "the last of a chain", chain + "cursor 14 = 15; drop 15 = 1; drop 14 = 1; drop 7 = 7; "
                + "count 0 = 7");
    }
}
