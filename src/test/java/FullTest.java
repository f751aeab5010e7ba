/**
 * Promise 4: at most 1000 keys, else full. No run of 512 calls comes to that; the class keeps to it all the same, so these
 * runs are longer.
 */
final class FullTest {
    public static void main(String[] args) {
        Runs runs = new Runs();
        for (String make : new String[] {"make 0 0 0", "make 0 1000 2", "make 1 0 0", "make 1 0 1", "make 2 1 0"}) {
            runs.playLong(make + ", full", make + " = 0\n" + keys(0, 999) + """
                    map 0 4 0 0 = 999; map 0 0 999 1 = NONE; map 0 0 1000 1 ! IllegalStateException
                    map 0 6 1000 1 ! IllegalStateException; map 0 8 1000 1 ! IllegalStateException; map 0 4 0 0 = 1000
                    cursor 0 = 1; map 0 7 1000 1 = NONE; map 0 0 1000 1 ! IllegalStateException; move 1 1 0 = 1
                    map 0 0 999 2 = 1; map 0 6 999 2 = 2; map 0 8 999 2 = 4; map 0 3 1000 0 = 0
                    map 0 2 0 0 = 1; map 0 0 1000 5 = NONE; map 0 1 1000 0 = 5; map 0 4 0 0 = 1000
                    """);
            runs.playLong(make + ", full by many", make + " = 0\n" + keys(0, 998) + """
                    make 1 0 0 = 1; map 1 0 0 1 = NONE; map 1 0 998 1 = NONE; map 1 0 999 1 = NONE; map 1 0 1000 1 = NONE
                    map 0 20 0 1 ! IllegalStateException; map 0 4 0 0 = 998; map 0 3 998 0 = 0; map 1 2 1000 0 = 1
                    map 0 20 0 1 = 3; map 0 4 0 0 = 1000; map 0 20 0 1 = 3
                    """);
        }
        runs.playLong("a LIMIT is never full", "make 1 1000 0 = 0\n" + keys(0, 1000) + """
                map 0 0 1000 1 = NONE; map 0 4 0 0 = 1000; map 0 10 0 0 = 1; make 2 0 0 = 1; map 1 0 -1 1 = NONE
                map 1 0 -2 1 = NONE; map 0 20 0 1 = 2; map 0 4 0 0 = 1000; map 0 10 0 0 = 3; map 0 11 0 0 = -1
                """);
        runs.playLong("a LIMIT of 1", "make 1 1 0 = 0; make 1 0 0 = 1\n" + keys(0, 1).replace("map 0", "map 1") + """
                map 1 0 -1 1 = NONE; map 0 20 0 1 = 2; map 0 4 0 0 = 1
                """);
        runs.playLong("a SUBMAP: of this part first, then full", "make 2 0 0 = 0\n" + keys(0, 1000) + """
                view 0 2 5000 0 = 1; map 1 0 5000 1 ! IllegalArgumentException; map 1 0 4000 1 ! IllegalStateException
                make 1 0 0 = 2; map 2 0 4000 1 = NONE; map 1 20 0 2 ! IllegalStateException; map 2 0 5000 1 = NONE
                map 1 20 0 2 ! IllegalArgumentException; map 0 4 0 0 = 1000; view 0 2 1 0 = 3; map 3 4 0 0 = 1
                map 3 0 -1 1 ! IllegalStateException
                """);
        runs.playLong("ten that are not alike", "make 1 0 0 = 0\n" + keys(0, 1000) + """
                make 2 3 0 = 1; map 1 0 5 1 = NONE; map 1 20 0 0 = 1000; map 1 4 0 0 = 10; item 1 5 0 = 5; item 1 6 0 = 6
                """);
        runs.end();
    }

    private static String keys(int from, int to) {
        StringBuilder script = new StringBuilder();
        for (int key = from; key < to; key++) {
            script.append("map 0 0 " + key + " 1 = NONE\n");
        }
        return script.toString();
    }
}
