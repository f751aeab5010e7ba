/** Promise 7: move. */
final class MoveTest {
    private static final String THREE = "make 2 0 0 = 0; map 0 0 1 10 = NONE; map 0 0 2 20 = NONE; map 0 0 3 30 = NONE\n";

    public static void main(String[] args) {
        Runs runs = new Runs();
        runs.play("to the end", THREE + """
                cursor 0 = 1; move 1 1 0 = 1; move 1 0 0 = 1; move 1 4 0 = 10; move 1 0 0 = 2; move 1 1 0 = 1
                move 1 0 0 = 3; move 1 1 0 = 0; move 1 0 0 ! NoSuchElementException; move 1 4 0 = 30; move 1 2 0 = 3
                move 1 0 0 ! NoSuchElementException; map 0 4 0 0 = 2
                """);
        runs.play("PASSED one goes", THREE + """
                cursor 0 = 1; move 1 2 0 ! IllegalStateException; move 1 3 0 ! IllegalStateException
                move 1 4 0 ! IllegalStateException; move 1 0 0 = 1; move 1 2 0 = 1; move 1 2 0 ! IllegalStateException
                move 1 3 5 ! IllegalStateException; move 1 4 0 ! IllegalStateException; move 1 1 0 = 1; move 1 0 0 = 2
                move 1 2 0 = 2; move 1 0 0 = 3; move 1 2 0 = 3; move 1 1 0 = 0; map 0 4 0 0 = 0
                """);
        runs.play("PASSED one's VALUE", THREE + """
                cursor 0 = 1; cursor 0 = 2; move 1 0 0 = 1; move 1 3 11 = 10; move 1 4 0 = 11; move 1 3 MIN = 11
                map 0 1 1 0 = -2147483648; move 2 0 0 = 1; move 2 4 0 = -2147483648; map 0 0 1 7 = -2147483648
                move 1 4 0 = 7; map 0 24 1 0 = 3; move 1 4 0 = 8
                """);
        runs.play("STALE", THREE + """
                cursor 0 = 1; cursor 0 = 2; move 1 0 0 = 1; move 2 0 0 = 1; move 1 2 0 = 1; move 1 0 0 = 2
                move 2 0 0 ! IllegalStateException; move 2 1 0 ! IllegalStateException; move 2 2 0 ! IllegalStateException
                move 2 3 0 ! IllegalStateException; move 2 4 0 ! IllegalStateException; move 2 5 0 ! IllegalArgumentException
                map 0 0 9 90 = NONE; move 1 0 0 ! IllegalStateException; map 0 2 9 0 = 90; move 1 1 0 ! IllegalStateException
                map 0 4 0 0 = 2; cursor 0 = 3; move 3 0 0 = 2
                """);
        runs.play("a SUBMAP: CHANGES of the TREE", THREE + """
                view 0 2 2 0 = 1; view 0 3 3 0 = 2; cursor 1 = 3; cursor 2 = 4; cursor 0 = 5; move 3 0 0 = 1
                map 2 0 3 31 = 30; move 4 0 0 = 3; move 4 4 0 = 31; map 2 0 9 90 = NONE; move 3 1 0 ! IllegalStateException
                move 4 1 0 ! IllegalStateException; move 5 1 0 ! IllegalStateException; cursor 1 = 6; cursor 0 = 7
                move 6 0 0 = 1; move 6 2 0 = 1; move 6 1 0 = 0; move 7 1 0 ! IllegalStateException
                """);
        runs.play("over a turned part", THREE + """
                view 0 4 0 0 = 1; view 1 2 1 0 = 2; cursor 2 = 3; move 3 0 0 = 3; move 3 2 0 = 3; move 3 0 0 = 2
                move 3 4 0 = 20; move 3 3 5 = 20; move 3 2 0 = 2; move 3 1 0 = 0; map 0 4 0 0 = 1; map 0 1 1 0 = 10
                """);
        runs.play("over a HASH", """
                make 0 8 0 = 0; map 0 0 9 90 = NONE; map 0 0 1 10 = NONE; map 0 0 8 80 = NONE; cursor 0 = 1; move 1 0 0 = 8
                move 1 0 0 = 9; move 1 2 0 = 9; move 1 0 0 = 1; move 1 3 5 = 10; move 1 1 0 = 0; map 0 1 1 0 = 5
                map 0 3 9 0 = 0
                """);
        runs.play("over a LINKED", """
                make 1 0 1 = 0; map 0 0 9 90 = NONE; map 0 0 1 10 = NONE; map 0 0 8 80 = NONE; cursor 0 = 1; move 1 0 0 = 9
                move 1 2 0 = 9; move 1 0 0 = 1; move 1 0 0 = 8; map 0 1 8 0 = 80; move 1 4 0 = 80; map 0 1 1 0 = 10
                move 1 4 0 ! IllegalStateException
                """);
        runs.play("what is thrown", """
                move 0 0 0 ! NoSuchElementException; move -1 0 0 ! NoSuchElementException; move 16 9 0 ! NoSuchElementException
                make 2 0 0 = 0; move 0 0 0 ! ClassCastException; move 0 9 0 ! ClassCastException; cursor 0 = 1
                move 1 -1 0 ! IllegalArgumentException; move 1 5 0 ! IllegalArgumentException
                move 1 MAX 0 ! IllegalArgumentException; move 1 0 0 ! NoSuchElementException; move 1 1 0 = 0
                make 0 0 0 = 2; move 2 0 0 ! ClassCastException; view 0 4 0 0 = 3; move 3 0 0 ! ClassCastException
                """);
        runs.end();
    }
}
