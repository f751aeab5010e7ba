/** Promise 6: cursor. */
final class CursorTest {
    public static void main(String[] args) {
        Runs runs = new Runs();
        runs.play("of every MAP, before its first key", """
                make 0 0 0 = 0; make 1 0 0 = 1; make 2 1 0 = 2; view 2 4 0 0 = 3
                map 0 0 1 1 = NONE; map 1 0 9 1 = NONE; map 1 0 3 1 = NONE; map 2 0 5 1 = NONE; map 2 0 6 1 = NONE
                cursor 0 = 4; cursor 1 = 5; cursor 2 = 6; cursor 3 = 7; cursor 2 = 8
                move 4 0 0 = 1; move 5 0 0 = 9; move 6 0 0 = 6; move 7 0 0 = 5; move 6 0 0 = 5; move 8 0 0 = 6
                count 14 = 4; count 34 = -1; count 0 = 9
                """);
        runs.play("what is thrown", """
                cursor 0 ! NoSuchElementException; cursor -1 ! NoSuchElementException; cursor 16 ! NoSuchElementException
                cursor MIN ! NoSuchElementException; make 2 0 0 = 0; cursor 0 = 1; cursor 1 ! ClassCastException; count 0 = 2
                """);
        StringBuilder full = new StringBuilder("make 2 0 0 = 0\n");
        for (int o = 1; o < 16; o++) {
            full.append("cursor 0 = " + o + "\n");
        }
        runs.play("full", full + "cursor 0 ! IllegalStateException; cursor 1 ! ClassCastException\n"
                + "drop 4 = 1; cursor 0 = 4; count 0 = 16");
        runs.end();
    }
}
