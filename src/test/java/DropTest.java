/** Promise 3: drop. */
final class DropTest {
    public static void main(String[] args) {
        Runs runs = new Runs();
        runs.play("alone", """
                make 0 0 0 = 0; make 1 0 0 = 1; map 0 0 1 1 = NONE; drop 0 = 1; count 0 = 1; count 10 = -1
                drop 0 ! NoSuchElementException; map 0 4 0 0 ! NoSuchElementException; make 0 0 0 = 0; map 0 4 0 0 = 0
                drop -1 ! NoSuchElementException; drop 16 ! NoSuchElementException; drop MAX ! NoSuchElementException
                drop MIN ! NoSuchElementException; count 0 = 2
                """);
        runs.play("with its parts", """
                make 2 0 0 = 0; view 0 4 0 0 = 1; view 1 2 5 0 = 2; cursor 2 = 3; cursor 0 = 4; make 2 0 0 = 5
                cursor 5 = 6; drop 0 = 5; count 0 = 2; count 15 = 2; count 16 = 4; move 6 1 0 = 0
                """);
        runs.play("a part leaves its whole", """
                make 2 0 0 = 0; map 0 0 1 10 = NONE; view 0 4 0 0 = 1; view 1 3 9 0 = 2; cursor 1 = 3; cursor 2 = 4
                cursor 0 = 5; view 0 4 0 0 = 6; drop 1 = 4; count 0 = 3; map 0 1 1 0 = 10; move 5 0 0 = 1
                map 6 1 1 0 = 10; drop 5 = 1; count 0 = 2; drop 0 = 2; count 0 = 0
                """);
        runs.play("parts with lesser numbers than their wholes", """
                make 0 0 0 = 0; make 0 0 0 = 1; make 2 0 0 = 2; drop 1 = 1; view 2 4 0 0 = 1; drop 0 = 1
                view 1 4 0 0 = 0; cursor 0 = 3; drop 2 = 4; count 0 = 0
                """);
        StringBuilder chain = new StringBuilder("make 2 0 0 = 0\n");
        for (int o = 1; o < 15; o++) {
            chain.append("view " + (o - 1) + " 4 0 0 = " + o + "\n");
        }
        runs.play("sixteen in a chain", chain + "cursor 14 = 15; drop 0 = 16; count 0 = 0");
        runs.play("the end of a chain", chain + "cursor 14 = 15; drop 8 = 8; count 0 = 8");
        runs.end();
    }
}
