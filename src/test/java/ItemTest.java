/** Promise 8: item. */
final class ItemTest {
    public static void main(String[] args) {
        Runs runs = new Runs();
        runs.play("keys and VALUES in order", """
                make 0 4 0 = 0; make 1 0 0 = 1; make 2 0 0 = 2; view 2 4 0 0 = 3
                map 0 0 5 50 = NONE; map 0 0 4 40 = NONE; map 1 0 5 50 = NONE; map 1 0 4 40 = NONE
                map 2 0 5 50 = NONE; map 2 0 4 MIN = NONE
                item 0 0 0 = 4; item 0 1 0 = 5; item 0 0 1 = 40; item 0 1 1 = 50; item 1 0 0 = 5; item 1 1 0 = 4
                item 1 0 1 = 50; item 1 1 1 = 40; item 2 0 0 = 4; item 2 0 1 = -2147483648; item 3 0 0 = 5; item 3 0 1 = 50
                item 3 1 0 = 4
                """);
        runs.play("LINKED by use stays as it is", """
                make 1 0 1 = 0; map 0 0 5 50 = NONE; map 0 0 4 40 = NONE; cursor 0 = 1; item 0 0 0 = 5; item 0 0 1 = 50
                item 0 0 0 = 5; item 0 1 0 = 4; move 1 0 0 = 5
                """);
        runs.play("what is thrown", """
                item 0 0 0 ! NoSuchElementException; item -1 0 9 ! NoSuchElementException; make 2 0 0 = 0
                item 0 0 0 ! IndexOutOfBoundsException; item 0 0 1 ! IndexOutOfBoundsException; map 0 0 1 1 = NONE
                item 0 -1 0 ! IndexOutOfBoundsException; item 0 1 0 ! IndexOutOfBoundsException
                item 0 MAX 1 ! IndexOutOfBoundsException; item 0 MIN 1 ! IndexOutOfBoundsException
                item 0 0 2 ! IllegalArgumentException; item 0 0 -1 ! IllegalArgumentException
                item 0 9 2 ! IllegalArgumentException; cursor 0 = 1; item 1 0 0 ! ClassCastException
                item 1 9 9 ! ClassCastException; item 2 0 0 ! NoSuchElementException
                """);
        runs.end();
    }
}
