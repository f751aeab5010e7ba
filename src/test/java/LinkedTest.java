/** Promise 4, as told of LINKED: order of coming or use, LIMIT, CHANGES by use. */
final class LinkedTest {
    public static void main(String[] args) {
        Runs runs = new Runs();
        runs.play("order of coming", """
                make 1 0 0 = 0; map 0 0 5 1 = NONE; map 0 0 -7 2 = NONE; map 0 0 3 3 = NONE; map 0 0 5 4 = 1
                map 0 1 -7 0 = 2; map 0 6 5 9 = 4; map 0 7 -7 8 = 2; map 0 8 5 1 = 5
                item 0 0 0 = 5; item 0 1 0 = -7; item 0 2 0 = 3; item 0 0 1 = 5; item 0 1 1 = 8
                map 0 2 5 0 = 5; map 0 0 5 6 = NONE; item 0 0 0 = -7; item 0 2 0 = 5
                map 0 10 0 0 = -7; map 0 11 0 0 = 5; map 0 12 0 0 = -7; map 0 13 0 0 = 5; map 0 13 0 0 = 3
                map 0 10 0 0 ! NoSuchElementException; map 0 11 0 0 ! NoSuchElementException
                map 0 12 0 0 ! NoSuchElementException; map 0 13 0 0 ! NoSuchElementException
                """);
        String three = "make 1 0 1 = 0; map 0 0 1 10 = NONE; map 0 0 2 20 = NONE; map 0 0 3 30 = NONE\n";
        runs.play("op 0 is a use", three + "map 0 0 1 11 = 10; item 0 0 0 = 2; item 0 2 0 = 1; item 0 2 1 = 11");
        runs.play("op 1 is a use", three + "map 0 1 2 0 = 20; item 0 0 0 = 1; item 0 1 0 = 3; item 0 2 0 = 2");
        runs.play("op 6 is a use", three + "map 0 6 1 99 = 10; item 0 0 0 = 2; item 0 2 0 = 1; item 0 2 1 = 10");
        runs.play("op 7 is a use", three + "map 0 7 1 99 = 10; item 0 0 0 = 2; item 0 2 0 = 1; item 0 2 1 = 99");
        runs.play("op 8 is a use", three + "map 0 8 1 1 = 11; item 0 0 0 = 2; item 0 2 0 = 1; item 0 2 1 = 11");
        runs.play("others are not", three + """
                map 0 3 1 0 = 1; map 0 9 10 0 = 1; map 0 10 0 0 = 1; map 0 11 0 0 = 3; map 0 18 0 0 = 62
                map 0 24 1 0 = 3; item 0 0 1 = 11; make 1 0 0 = 1; map 1 20 0 0 = 3; map 0 19 0 1 = 1; map 1 19 0 0 = 1
                cursor 0 = 2; move 2 0 0 = 1; move 2 3 5 = 11; move 2 4 0 = 5; move 2 0 0 = 2
                item 0 0 0 = 1; item 0 1 0 = 2; item 0 2 0 = 3; count 30 = 3
                """);
        runs.play("a use is a CHANGE if it was not at the end", three + """
                cursor 0 = 1; map 0 1 3 0 = 30; map 0 0 3 5 = 30; map 0 6 3 1 = 5; map 0 7 3 6 = 5; map 0 8 3 1 = 7
                move 1 0 0 = 1; map 0 1 9 0 = NONE; map 0 7 9 0 = NONE; move 1 0 0 = 2; map 0 1 2 0 = 20
                move 1 0 0 ! IllegalStateException; move 1 1 0 ! IllegalStateException
                """);
        runs.play("by coming a use is no CHANGE", """
                make 1 0 0 = 0; map 0 0 1 10 = NONE; map 0 0 2 20 = NONE; cursor 0 = 1; map 0 1 1 0 = 10
                map 0 0 1 5 = 10; map 0 6 1 1 = 5; map 0 7 1 6 = 5; map 0 8 1 1 = 7; move 1 0 0 = 1; move 1 4 0 = 7
                """);
        runs.play("LIMIT: the first one goes", """
                make 1 2 0 = 0; map 0 0 1 10 = NONE; map 0 0 2 20 = NONE; map 0 0 1 11 = 10; map 0 4 0 0 = 2
                map 0 0 3 30 = NONE; map 0 4 0 0 = 2; item 0 0 0 = 2; item 0 1 0 = 3; map 0 6 4 40 = NONE
                item 0 0 0 = 3; map 0 8 5 50 = 50; item 0 0 0 = 4; item 0 1 0 = 5; map 0 1 1 0 = NONE
                """);
        runs.play("LIMIT with use", """
                make 1 2 1 = 0; map 0 0 1 10 = NONE; map 0 0 2 20 = NONE; map 0 1 1 0 = 10; map 0 0 3 30 = NONE
                item 0 0 0 = 1; item 0 1 0 = 3; map 0 3 2 0 = 0
                """);
        runs.play("LIMIT 1, and all of another one", """
                make 1 1 0 = 0; make 2 1 0 = 1; map 1 0 1 10 = NONE; map 1 0 2 20 = NONE; map 1 0 3 30 = NONE
                map 0 20 0 1 = 3; map 0 4 0 0 = 1; item 0 0 0 = 1; item 0 0 1 = 10; make 1 2 1 = 2; map 2 0 2 0 = NONE
                map 2 0 9 0 = NONE; map 2 20 0 1 = 3; item 2 0 0 = 2; item 2 1 0 = 1; item 2 0 1 = 20
                """);
        StringBuilder many = new StringBuilder("make 1 100 0 = 0\n");
        for (int key = 0; key < 150; key++) {
            many.append("map 0 0 " + key + " 1 = NONE\n");
        }
        runs.play("LIMIT 100", many + "map 0 4 0 0 = 100; item 0 0 0 = 50; item 0 99 0 = 149");
        runs.play("TREE alone", """
                make 1 0 0 = 0; map 0 0 1 1 = NONE; map 0 14 0 0 ! UnsupportedOperationException
                map 0 15 0 0 ! UnsupportedOperationException; map 0 16 0 0 ! UnsupportedOperationException
                map 0 17 0 0 ! UnsupportedOperationException; map 0 23 0 0 ! UnsupportedOperationException
                """);
        runs.end();
    }
}
