/** Promise 2: make. */
final class MakeTest {
    public static void main(String[] args) {
        Runs runs = new Runs();
        runs.play("kinds", """
                make 0 0 0 = 0; make 1 0 0 = 1; make 2 0 0 = 2
                count 10 = 0; count 11 = 1; count 12 = 2; count 30 = 0; count 31 = 0; count 32 = 0
                """);
        runs.play("another kind", """
                make -1 0 0 ! IllegalArgumentException; make 3 0 0 ! IllegalArgumentException
                make 4 0 0 ! IllegalArgumentException; make MIN 0 0 ! IllegalArgumentException
                make MAX -1 0 ! IllegalArgumentException; count 0 = 0
                """);
        runs.play("ranges of a HASH", """
                make 0 0 0 = 0; make 0 1000 3 = 1; make 0 1001 0 ! IllegalArgumentException
                make 0 MAX 0 ! IllegalArgumentException; make 0 0 -1 ! IllegalArgumentException
                make 0 0 4 ! IllegalArgumentException; make 0 -1 0 ! NegativeArraySizeException
                make 0 MIN 0 ! NegativeArraySizeException; make 0 -1 9 ! NegativeArraySizeException; count 0 = 2
                """);
        runs.play("ranges of a LINKED", """
                make 1 0 0 = 0; make 1 1000 1 = 1; make 1 -1 0 ! IllegalArgumentException
                make 1 1001 0 ! IllegalArgumentException; make 1 0 -1 ! IllegalArgumentException
                make 1 0 2 ! IllegalArgumentException; count 0 = 2
                """);
        runs.play("ranges of a TREE, which has no b", """
                make 2 0 MIN = 0; make 2 1 -1 = 1; make 2 2 5 = 2; make 2 3 MAX = 3
                make 2 -1 0 ! IllegalArgumentException; make 2 4 0 ! IllegalArgumentException; count 0 = 4
                """);
        StringBuilder full = new StringBuilder();
        for (int o = 0; o < 16; o++) {
            full.append("make " + o % 3 + " 0 0 = " + o + "\n");
        }
        runs.play("full, behind all else", full + """
                make 2 0 0 ! IllegalStateException; make 0 0 0 ! IllegalStateException
                make 3 0 0 ! IllegalArgumentException; make 0 -1 0 ! NegativeArraySizeException
                make 1 0 2 ! IllegalArgumentException; view 2 4 0 0 ! IllegalStateException
                cursor 2 ! IllegalStateException; view 2 5 0 0 ! IllegalArgumentException
                view 2 1 1 0 ! IllegalArgumentException; view 1 4 0 0 ! ClassCastException; count 0 = 16
                """);
        runs.play("the least free number", full + """
                drop 7 = 1; drop 3 = 1; drop 12 = 1; make 2 0 0 = 3; cursor 3 = 7; view 3 4 0 0 = 12
                make 0 0 0 ! IllegalStateException; count 13 = 2; count 17 = 4; count 22 = 3
                """);
        runs.end();
    }
}
