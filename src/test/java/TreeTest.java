/** Promise 4, as told of TREE: four ORDERS, keys that are alike, nearest keys. */
final class TreeTest {
    public static void main(String[] args) {
        Runs runs = new Runs();
        orders(runs);
        nearest(runs);
        runs.play("alike keys are the same, and the first one stays", """
                make 2 3 0 = 0; map 0 0 13 1 = NONE; map 0 0 3 2 = 1; map 0 0 -7 3 = 2; map 0 4 0 0 = 1
                item 0 0 0 = 13; item 0 0 1 = 3; map 0 1 23 0 = 3; map 0 3 -17 0 = 1; map 0 6 33 9 = 3; map 0 7 43 4 = 3
                map 0 8 53 1 = 5; map 0 15 93 0 = 13; map 0 16 93 0 = 13; map 0 14 93 0 = NONE; map 0 17 93 0 = NONE
                map 0 2 1003 0 = 5; map 0 4 0 0 = 0
                """);
        runs.play("CHANGES: new keys alone", """
                make 2 3 0 = 0; map 0 0 13 1 = NONE; cursor 0 = 1; map 0 0 3 2 = 1; move 1 0 0 = 13
                map 0 0 4 2 = NONE; move 1 1 0 ! IllegalStateException
                """);
        runs.end();
    }

    private static void orders(Runs runs) {
        String keys = """
                map 0 0 -3 1 = NONE; map 0 0 12 2 = NONE; map 0 0 MIN 3 = NONE; map 0 0 3 4 = NONE; map 0 0 0 5 = NONE
                map 0 0 MAX 6 = NONE; map 0 4 0 0 = 6
                """;
        runs.play("rising", "make 2 0 0 = 0\n" + keys + """
                item 0 0 0 = -2147483648; item 0 1 0 = -3; item 0 2 0 = 0; item 0 3 0 = 3; item 0 4 0 = 12
                item 0 5 0 = 2147483647; map 0 10 0 0 = -2147483648; map 0 11 0 0 = 2147483647; map 0 23 3 0 = 3
                """);
        runs.play("falling", "make 2 1 0 = 0\n" + keys + """
                item 0 0 0 = 2147483647; item 0 1 0 = 12; item 0 2 0 = 3; item 0 3 0 = 0; item 0 4 0 = -3
                item 0 5 0 = -2147483648; map 0 12 0 0 = 2147483647; map 0 13 0 0 = -2147483648; map 0 14 3 0 = 12
                map 0 17 3 0 = 0; map 0 23 3 0 = 1; map 0 4 0 0 = 4
                """);
        runs.play("by size, of the same size rising", "make 2 2 0 = 0\n" + keys + """
                item 0 0 0 = 0; item 0 1 0 = -3; item 0 2 0 = 3; item 0 3 0 = 12; item 0 4 0 = 2147483647
                item 0 5 0 = -2147483648; map 0 17 -3 0 = 3; map 0 16 -12 0 = 12; map 0 15 -12 0 = 3; map 0 23 MIN 0 = 5
                map 0 1 -12 0 = NONE; map 0 14 MIN 0 = 2147483647; map 0 17 MIN 0 = NONE
                """);
        runs.play("by the last digit", """
                make 2 3 0 = 0; map 0 0 25 1 = NONE; map 0 0 -1 2 = NONE; map 0 0 10 3 = NONE; map 0 0 MIN 4 = NONE
                item 0 0 0 = 10; item 0 1 0 = -2147483648; item 0 2 0 = 25; item 0 3 0 = -1; map 0 23 8 0 = 3
                map 0 17 5 0 = -1; map 0 14 5 0 = -2147483648; map 0 3 2 0 = 1; map 0 0 MAX 5 = NONE; item 0 3 0 = 2147483647
                """);
    }

    private static void nearest(Runs runs) {
        String three = "make 2 0 0 = 0; map 0 0 10 1 = NONE; map 0 0 20 2 = NONE; map 0 0 30 3 = NONE\n";
        runs.play("nearest keys", three + """
                map 0 14 10 0 = NONE; map 0 14 11 0 = 10; map 0 14 20 0 = 10; map 0 14 MAX 0 = 30
                map 0 15 9 0 = NONE; map 0 15 10 0 = 10; map 0 15 29 0 = 20; map 0 15 30 0 = 30
                map 0 16 MIN 0 = 10; map 0 16 10 0 = 10; map 0 16 11 0 = 20; map 0 16 31 0 = NONE
                map 0 17 9 0 = 10; map 0 17 10 0 = 20; map 0 17 29 0 = 30; map 0 17 30 0 = NONE
                map 0 23 10 0 = 0; map 0 23 11 0 = 1; map 0 23 30 0 = 2; map 0 23 31 0 = 3
                """);
        runs.play("nearest of none", """
                make 2 0 0 = 0; map 0 14 0 0 = NONE; map 0 15 0 0 = NONE; map 0 16 0 0 = NONE; map 0 17 0 0 = NONE
                map 0 23 0 0 = 0; map 0 10 0 0 ! NoSuchElementException; map 0 11 0 0 ! NoSuchElementException
                map 0 12 0 0 ! NoSuchElementException; map 0 13 0 0 ! NoSuchElementException
                """);
        runs.play("ends go", three + """
                map 0 12 0 0 = 10; map 0 13 0 0 = 30; map 0 4 0 0 = 1; map 0 12 0 0 = 20
                map 0 13 0 0 ! NoSuchElementException
                """);
    }
}
