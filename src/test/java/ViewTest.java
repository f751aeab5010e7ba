/** Promise 5: view. */
final class ViewTest {
    private static final String FIVE = "make 2 0 0 = 0; map 0 0 1 10 = NONE; map 0 0 2 20 = NONE; map 0 0 3 30 = NONE\n"
            + "map 0 0 4 40 = NONE; map 0 0 5 50 = NONE\n";

    public static void main(String[] args) {
        Runs runs = new Runs();
        kinds(runs);
        partsOfParts(runs);
        comingKeys(runs);
        orders(runs);
        runs.play("what is thrown", """
                view 0 1 0 1 ! NoSuchElementException; make 0 0 0 = 0; make 1 0 0 = 1; make 2 0 0 = 2; cursor 2 = 3
                view 0 1 0 1 ! ClassCastException; view 1 1 0 1 ! ClassCastException; view 3 1 0 1 ! ClassCastException
                view 0 9 0 1 ! ClassCastException; view 2 0 0 1 ! IllegalArgumentException
                view 2 5 0 1 ! IllegalArgumentException; view 2 MIN 0 1 ! IllegalArgumentException
                view 2 1 1 0 ! IllegalArgumentException; view 2 1 MAX MIN ! IllegalArgumentException
                view 2 1 1 1 = 4; map 4 4 0 0 = 0; map 4 0 1 1 ! IllegalArgumentException
                view 2 2 5 -9 = 5; view 2 3 5 -9 = 6; view 2 4 5 -9 = 7; count 0 = 8; count 14 = 3; count 17 = 3
                """);
        runs.end();
    }

    private static void kinds(Runs runs) {
        runs.play("from a to before b", FIVE + """
                view 0 1 2 4 = 1; map 1 4 0 0 = 2; item 1 0 0 = 2; item 1 1 0 = 3; item 1 1 1 = 30
                item 1 2 0 ! IndexOutOfBoundsException; map 1 1 4 0 = NONE; map 1 1 1 0 = NONE; map 1 1 3 0 = 30
                map 1 3 1 0 = 0; map 1 2 5 0 = NONE; map 1 7 1 0 = NONE; map 1 10 0 0 = 2; map 1 11 0 0 = 3
                map 1 14 2 0 = NONE; map 1 14 9 0 = 3; map 1 15 1 0 = NONE; map 1 15 9 0 = 3; map 1 16 0 0 = 2
                map 1 16 4 0 = NONE; map 1 17 1 0 = 2; map 1 17 3 0 = NONE; map 1 23 9 0 = 2; map 1 23 3 0 = 1
                map 1 23 0 0 = 0; map 1 18 0 0 = 51; map 1 9 20 0 = 1; map 1 9 10 0 = 0; map 1 24 1 0 = 2
                map 0 1 2 0 = 21; map 0 1 4 0 = 40; map 1 25 40 0 = 0; map 1 25 31 0 = 1; map 0 4 0 0 = 4
                map 1 5 0 0 = 1; map 0 4 0 0 = 3; item 0 0 0 = 1; item 0 1 0 = 4; item 0 2 0 = 5
                """);
        runs.play("before a", FIVE + "view 0 2 3 0 = 1; map 1 4 0 0 = 2; item 1 0 0 = 1; item 1 1 0 = 2; map 1 13 0 0 = 2\n"
                + "map 1 12 0 0 = 1; map 1 12 0 0 ! NoSuchElementException; map 0 4 0 0 = 3");
        runs.play("a and behind", FIVE + "view 0 3 3 0 = 1; map 1 4 0 0 = 3; item 1 0 0 = 3; item 1 2 0 = 5; map 1 12 0 0 = 3\n"
                + "map 0 3 3 0 = 0; map 0 0 3 1 = NONE; item 1 0 0 = 3; item 1 0 1 = 1");
        runs.play("all, turned round", FIVE + """
                view 0 4 0 0 = 1; map 1 4 0 0 = 5; item 1 0 0 = 5; item 1 4 0 = 1; item 1 0 1 = 50; map 1 10 0 0 = 5
                map 1 11 0 0 = 1; map 1 14 3 0 = 4; map 1 15 3 0 = 3; map 1 16 3 0 = 3; map 1 17 3 0 = 2
                map 1 14 5 0 = NONE; map 1 17 1 0 = NONE; map 1 14 0 0 = 1; map 1 17 9 0 = 5; map 1 23 3 0 = 2
                map 1 23 0 0 = 5; map 1 12 0 0 = 5; map 1 13 0 0 = 1; map 1 0 9 90 = NONE; item 1 0 0 = 9
                map 0 11 0 0 = 9; map 0 25 90 0 = 1; map 1 10 0 0 = 4; view 1 4 0 0 = 2; item 2 0 0 = 2; map 2 5 0 0 = 3
                """);
        runs.play("turned, several with one VALUE go", FIVE + """
                map 0 0 1 0 = 10; map 0 0 2 0 = 20; map 0 0 5 0 = 50; view 0 4 0 0 = 1; view 1 1 5 1 = 2; map 2 25 0 0 = 2
                map 0 4 0 0 = 3; item 0 0 0 = 1; item 0 1 0 = 3; item 0 2 0 = 4
                """);
    }

    private static void partsOfParts(Runs runs) {
        runs.play("of a turned one, in its order", FIVE + """
                view 0 4 0 0 = 1; view 1 1 2 4 ! IllegalArgumentException; view 1 1 4 2 = 2; item 2 0 0 = 4; item 2 1 0 = 3
                map 2 4 0 0 = 2; view 1 2 3 0 = 3; item 3 0 0 = 5; item 3 1 0 = 4; map 3 4 0 0 = 2; view 1 3 3 0 = 4
                item 4 0 0 = 3; item 4 2 0 = 1; map 4 4 0 0 = 3; view 2 4 0 0 = 5; item 5 0 0 = 3; item 5 1 0 = 4
                view 5 3 4 0 = 6; map 6 4 0 0 = 1; item 6 0 0 = 4; view 1 1 3 3 = 7; map 7 4 0 0 = 0
                """);
        runs.play("never more than the whole", FIVE + """
                view 0 1 2 4 = 1; view 1 1 0 9 = 2; map 2 4 0 0 = 2; item 2 0 0 = 2; view 1 3 3 0 = 3; map 3 4 0 0 = 1
                view 1 2 9 0 = 4; map 4 4 0 0 = 2; view 1 3 0 0 = 5; map 5 4 0 0 = 2; view 1 2 3 0 = 6; map 6 4 0 0 = 1
                map 2 0 1 1 ! IllegalArgumentException; map 2 0 4 1 ! IllegalArgumentException; map 2 0 3 1 = 30
                view 1 4 0 0 = 7; map 7 0 5 1 ! IllegalArgumentException; map 7 4 0 0 = 2; item 7 0 0 = 3
                """);
        runs.play("beside the whole", FIVE + """
                view 0 1 2 4 = 1; view 1 3 5 0 = 2; map 2 4 0 0 = 0; map 2 5 0 0 = 0; map 2 3 5 0 = 0
                map 2 0 5 1 ! IllegalArgumentException; map 2 10 0 0 ! NoSuchElementException; map 2 14 9 0 = NONE
                map 2 17 0 0 = NONE; map 2 23 9 0 = 0; item 2 0 0 ! IndexOutOfBoundsException; view 1 2 1 0 = 3
                map 3 4 0 0 = 0; map 3 0 1 1 ! IllegalArgumentException; map 3 0 3 1 ! IllegalArgumentException
                view 3 4 0 0 = 4; map 4 4 0 0 = 0; cursor 4 = 5; move 5 1 0 = 0; map 0 4 0 0 = 5
                """);
    }

    private static void comingKeys(Runs runs) {
        runs.play("keys that come", """
                make 2 0 0 = 0; view 0 1 10 20 = 1; map 1 0 10 1 = NONE; map 1 0 19 2 = NONE
                map 1 0 9 1 ! IllegalArgumentException; map 1 0 20 1 ! IllegalArgumentException
                map 1 6 9 1 ! IllegalArgumentException; map 1 8 20 1 ! IllegalArgumentException
                map 1 8 MAX 0 ! IllegalArgumentException; map 1 6 MIN 1 ! IllegalArgumentException
                map 1 7 9 1 = NONE; map 1 1 9 0 = NONE; map 0 0 9 9 = NONE; map 1 0 9 1 ! IllegalArgumentException
                map 1 6 9 1 ! IllegalArgumentException; map 1 7 9 1 = NONE; map 1 2 9 0 = NONE; map 0 1 9 0 = 9
                map 0 0 15 3 = NONE; map 1 4 0 0 = 3; item 1 1 0 = 15; count 31 = 3; count 30 = 4
                map 0 2 10 0 = 1; map 1 4 0 0 = 2; map 1 8 15 -3 = NONE; map 0 4 0 0 = 2; map 0 5 0 0 = 2; map 1 4 0 0 = 0
                """);
        runs.play("all ints", """
                make 2 0 0 = 0; map 0 0 MIN 1 = NONE; map 0 0 MAX 2 = NONE; view 0 1 MIN MAX = 1; map 1 4 0 0 = 1
                view 0 3 MAX 0 = 2; map 2 4 0 0 = 1; view 0 2 MIN 0 = 3; map 3 4 0 0 = 0; view 0 4 0 0 = 4
                view 4 1 MAX MIN = 5; map 5 4 0 0 = 1; item 5 0 0 = 2147483647; view 4 3 MIN 0 = 6; item 6 0 0 = -2147483648
                view 4 2 MIN 0 = 7; item 7 0 0 = 2147483647; map 7 4 0 0 = 1
                """);
    }

    private static void orders(Runs runs) {
        runs.play("falling", """
                make 2 1 0 = 0; map 0 0 1 10 = NONE; map 0 0 2 20 = NONE; map 0 0 3 30 = NONE
                view 0 1 1 3 ! IllegalArgumentException; view 0 1 3 1 = 1; map 1 4 0 0 = 2; item 1 0 0 = 3; view 0 2 2 0 = 2
                item 2 0 0 = 3; map 2 4 0 0 = 1; view 0 4 0 0 = 3; item 3 0 0 = 1; view 3 1 1 3 = 4; map 4 4 0 0 = 2
                """);
        runs.play("by size", """
                make 2 2 0 = 0; map 0 0 -2 1 = NONE; map 0 0 2 2 = NONE; map 0 0 1 3 = NONE; map 0 0 -3 4 = NONE
                view 0 1 2 -2 ! IllegalArgumentException; view 0 1 -2 2 = 1; map 1 4 0 0 = 1; item 1 0 0 = -2
                view 0 3 2 0 = 2; item 2 0 0 = 2; map 2 4 0 0 = 2; view 0 2 -1 0 = 3; map 3 4 0 0 = 0
                map 3 0 0 1 = NONE; map 0 10 0 0 = 0
                """);
        runs.play("by the last digit", """
                make 2 3 0 = 0; map 0 0 11 1 = NONE; map 0 0 25 2 = NONE; map 0 0 39 3 = NONE
                view 0 1 95 11 ! IllegalArgumentException; view 0 1 101 95 = 1; map 1 4 0 0 = 1; item 1 0 0 = 11
                map 1 0 1 9 = 1; item 1 0 0 = 11; map 1 0 34 4 = NONE; map 1 0 35 4 ! IllegalArgumentException
                view 0 4 0 0 = 2; view 2 3 5 0 = 3; item 3 0 0 = 25; item 3 1 0 = 34; item 3 2 0 = 11; map 3 4 0 0 = 3
                view 2 2 5 0 = 4; map 4 4 0 0 = 1; item 4 0 0 = 39; view 2 1 9 9 = 5; map 5 4 0 0 = 0
                """);
    }
}
