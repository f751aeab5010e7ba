/** Promise 9: count. */
final class CountTest {
    public static void main(String[] args) {
        Runs runs = new Runs();
        runs.play("OBJECTS, KINDS, sizes", """
                make 0 0 0 = 0; make 1 0 0 = 1; make 2 0 0 = 2; view 2 2 2 0 = 3; cursor 0 = 4; count 0 = 5
                map 0 0 1 1 = NONE; map 1 0 1 1 = NONE; map 1 0 2 1 = NONE; map 2 0 1 1 = NONE; map 2 0 2 1 = NONE
                map 2 0 3 1 = NONE; count 10 = 0; count 11 = 1; count 12 = 2; count 13 = 3; count 14 = 4; count 15 = -1
                count 25 = -1; count 30 = 1; count 31 = 2; count 32 = 3; count 33 = 1; count 34 = -1; count 35 = -1
                count 45 = -1; drop 2 = 2; count 0 = 3; count 12 = -1; count 32 = -1; count 33 = -1
                """);
        StringBuilder all = new StringBuilder();
        for (int o = 0; o < 16; o++) {
            all.append("make 2 0 0 = " + o + "\n");
        }
        runs.play("the last one", all + "map 15 0 1 1 = NONE; count 25 = 2; count 45 = 1; count 0 = 16");
        StringBuilder wrong = new StringBuilder("make 2 0 0 = 0\n");
        for (int what : new int[] {Integer.MIN_VALUE, -1, 1, 2, 9, 26, 29, 46, 100, Integer.MAX_VALUE}) {
            wrong.append("count " + what + " ! IllegalArgumentException\n");
        }
        runs.play("other numbers", wrong.toString());
        runs.end();
    }
}
