/** Promise 4, as told of HASH: TABLE, BINS, order, BUSHY. */
final class HashTest {
    public static void main(String[] args) {
        Runs runs = new Runs();
        firstTables(runs);
        orders(runs);
        bushyBins(runs);
        runs.play("not of HASH", """
                make 0 0 0 = 0; map 0 10 0 0 ! UnsupportedOperationException
                map 0 11 0 0 ! UnsupportedOperationException; map 0 12 0 0 ! UnsupportedOperationException
                map 0 13 0 0 ! UnsupportedOperationException; map 0 14 0 0 ! UnsupportedOperationException
                map 0 15 0 0 ! UnsupportedOperationException; map 0 16 0 0 ! UnsupportedOperationException
                map 0 17 0 0 ! UnsupportedOperationException; map 0 23 0 0 ! UnsupportedOperationException
                """);
        runs.play("HASH alone", """
                make 1 0 0 = 0; make 2 0 0 = 1; view 1 4 0 0 = 2
                map 0 21 0 0 ! UnsupportedOperationException; map 1 21 0 0 ! UnsupportedOperationException
                map 2 21 0 0 ! UnsupportedOperationException; map 0 22 0 0 ! UnsupportedOperationException
                map 1 22 0 0 ! UnsupportedOperationException; map 2 22 0 0 ! UnsupportedOperationException
                """);
        runs.end();
    }

    private static void firstTables(Runs runs) {
        int[][] due = {{0, 2}, {1, 2}, {2, 2}, {3, 4}, {4, 4}, {5, 8}, {17, 32}, {512, 512}, {513, 1024}, {1000, 1024}};
        for (int[] pair : due) {
            runs.play("first TABLE for " + pair[0], "make 0 " + pair[0] + " 0 = 0; map 0 21 0 0 = 0; map 0 22 0 0 = 0\n"
                    + "map 0 1 5 0 = NONE; map 0 2 5 0 = NONE; map 0 3 5 0 = 0; map 0 7 5 1 = NONE; map 0 5 0 0 = 0\n"
                    + "map 0 21 0 0 = 0; map 0 0 5 1 = NONE; map 0 21 0 0 = " + pair[1] + "\n"
                    + "map 0 2 5 0 = 1; map 0 21 0 0 = " + pair[1] + "; map 0 5 0 0 = 0; map 0 21 0 0 = " + pair[1]);
        }
        runs.play("doubled behind the key that is too many", """
                make 0 4 0 = 0; map 0 0 1 1 = NONE; map 0 0 2 1 = NONE; map 0 0 3 1 = NONE; map 0 21 0 0 = 4
                map 0 0 3 2 = 1; map 0 21 0 0 = 4; map 0 6 4 1 = NONE; map 0 21 0 0 = 8
                map 0 8 5 1 = 1; map 0 8 6 1 = 1; map 0 21 0 0 = 8; map 0 8 7 1 = 1; map 0 21 0 0 = 16
                """);
    }

    private static void orders(Runs runs) {
        runs.play("RULE 0: by BINS, then by coming", """
                make 0 8 0 = 0; map 0 0 9 1 = NONE; map 0 0 1 2 = NONE; map 0 0 -1 3 = NONE; map 0 0 8 4 = NONE
                item 0 0 0 = -1; item 0 1 0 = 8; item 0 2 0 = 9; item 0 3 0 = 1
                item 0 0 1 = 3; item 0 1 1 = 4; item 0 2 1 = 1; item 0 3 1 = 2
                """);
        runs.play("RULE 0: high bits count", """
                make 0 4 0 = 0; map 0 0 65536 1 = NONE; map 0 0 0 2 = NONE; map 0 0 65537 3 = NONE
                item 0 0 0 = 0; item 0 1 0 = 65537; item 0 2 0 = 65536
                """);
        runs.play("RULE 1: mod 16, never below 0", """
                make 0 16 1 = 0; map 0 0 -1 1 = NONE; map 0 0 -16 2 = NONE; map 0 0 17 3 = NONE; map 0 0 MIN 4 = NONE
                map 0 0 31 5 = NONE; item 0 0 0 = -16; item 0 1 0 = -2147483648; item 0 2 0 = 17; item 0 3 0 = -1
                item 0 4 0 = 31
                """);
        runs.play("RULE 2: all in one", """
                make 0 8 2 = 0; map 0 0 5 1 = NONE; map 0 0 -3 2 = NONE; map 0 0 4 3 = NONE; map 0 2 5 0 = 1
                map 0 0 5 4 = NONE; item 0 0 0 = -3; item 0 1 0 = 4; item 0 2 0 = 5
                """);
        // 1 * -1640531527 = 0x9E3779B9: ^ >>> 16 = ..E78E, BIN 14 of 16; 2: 0x3C6EF372 ..CF1C, 12; 3: 0xDAA66D2B ..B78D, 13
        runs.play("RULE 3: times -1640531527", """
                make 0 16 3 = 0; map 0 0 1 1 = NONE; map 0 0 2 2 = NONE; map 0 0 3 3 = NONE
                item 0 0 0 = 2; item 0 1 0 = 3; item 0 2 0 = 1
                """);
        runs.play("doubled in their order", """
                make 0 4 0 = 0; map 0 0 12 1 = NONE; map 0 0 8 2 = NONE; map 0 0 4 3 = NONE
                item 0 0 0 = 12; item 0 1 0 = 8; item 0 2 0 = 4; map 0 0 0 4 = NONE; map 0 21 0 0 = 8
                item 0 0 0 = 8; item 0 1 0 = 0; item 0 2 0 = 12; item 0 3 0 = 4
                """);
    }

    /** RULE 0 and multiples of 64 share a BIN of a TABLE of 64, and part when it is doubled. */
    private static void bushyBins(Runs runs) {
        StringBuilder eight = new StringBuilder("make 0 64 0 = 0\n");
        for (int i = 0; i < 8; i++) {
            eight.append("map 0 0 " + i * 64 + " " + i + " = NONE\nmap 0 22 0 0 = 0\n");
        }
        runs.play("BUSHY from the ninth on", eight + "map 0 0 64 5 = 1; map 0 22 0 0 = 0; map 0 0 512 8 = NONE\n"
                + "map 0 22 0 0 = 1; map 0 21 0 0 = 64");
        runs.play("not BUSHY with six", eight + """
                map 0 0 512 8 = NONE; map 0 2 0 0 = 0; map 0 22 0 0 = 1; map 0 2 64 0 = 1; map 0 22 0 0 = 1
                map 0 2 1 0 = NONE; map 0 22 0 0 = 1; map 0 2 512 0 = 8; map 0 22 0 0 = 0
                map 0 0 512 8 = NONE; map 0 0 64 8 = NONE; map 0 22 0 0 = 0; map 0 0 0 8 = NONE; map 0 22 0 0 = 1
                """);
        runs.play("BUSHY ends by op 8, 25 and a CURSOR too", eight + """
                map 0 0 512 8 = NONE; map 0 0 576 8 = NONE; map 0 22 0 0 = 1; map 0 8 64 -1 = NONE; map 0 22 0 0 = 1
                map 0 25 8 0 = 2; map 0 22 0 0 = 1; cursor 0 = 1; move 1 0 0 = 0; move 1 2 0 = 0; map 0 22 0 0 = 0
                """);
        runs.play("op 5: no BIN is BUSHY, TABLE stays", eight + """
                map 0 0 512 8 = NONE; map 0 22 0 0 = 1; map 0 5 0 0 = 9; map 0 22 0 0 = 0; map 0 21 0 0 = 64
                map 0 0 0 0 = NONE; map 0 21 0 0 = 64; map 0 22 0 0 = 0
                """);
        // 7 of 12 keys of the BUSHY BIN go to BIN 0, 5 to BIN 64, when 37 others make the TABLE too small.
        StringBuilder split = new StringBuilder("make 0 64 0 = 0\n");
        int[] twelve = {0, 64, 128, 256, 192, 384, 320, 512, 640, 448, 768, 576};
        for (int key : twelve) {
            split.append("map 0 0 " + key + " 0 = NONE\n");
        }
        split.append("map 0 22 0 0 = 1\n");
        for (int key = 1; key <= 37; key++) {
            split.append("map 0 21 0 0 = 64\nmap 0 0 " + key + " 0 = NONE\n");
        }
        runs.play("parts of a BUSHY BIN with more than 6 are BUSHY", split + """
                map 0 21 0 0 = 128; map 0 22 0 0 = 1; map 0 4 0 0 = 49; item 0 0 0 = 0; item 0 1 0 = 128
                item 0 2 0 = 256; item 0 3 0 = 384; item 0 4 0 = 512; item 0 5 0 = 640; item 0 6 0 = 768
                item 0 7 0 = 1; item 0 43 0 = 37; item 0 44 0 = 64; item 0 45 0 = 192; item 0 46 0 = 320
                item 0 47 0 = 448; item 0 48 0 = 576; item 0 49 0 ! IndexOutOfBoundsException
                """);
        runs.play("six are not", split.toString().replace(" 768 0 = NONE", " 768 0 = NONE\nmap 0 2 0 0 = 0")
                + "map 0 0 900 0 = NONE; map 0 21 0 0 = 128; map 0 22 0 0 = 0; map 0 4 0 0 = 49");
        runs.play("six in the upper one are not", split.toString().replace(" 768 0 = NONE", " 704 0 = NONE")
                + "map 0 21 0 0 = 128; map 0 22 0 0 = 0; item 0 0 0 = 0; item 0 5 0 = 640; item 0 6 0 = 1");
        runs.play("seven in the upper one are", split.toString().replace(" 768 0 = NONE", " 704 0 = NONE")
                .replace(" 640 0 = NONE", " 832 0 = NONE") + "map 0 21 0 0 = 128; map 0 22 0 0 = 1; map 0 2 832 0 = 0\n"
                + "map 0 22 0 0 = 0");
        runs.play("a full BIN of a small TABLE doubles it once", """
                make 0 0 2 = 0; map 0 0 1 0 = NONE; map 0 0 2 0 = NONE; map 0 0 3 0 = NONE; map 0 0 4 0 = NONE
                map 0 0 5 0 = NONE; map 0 0 6 0 = NONE; map 0 0 7 0 = NONE; map 0 0 8 0 = NONE; map 0 21 0 0 = 16
                map 0 0 9 0 = NONE; map 0 21 0 0 = 32; map 0 0 9 1 = 0; map 0 21 0 0 = 32; map 0 0 10 0 = NONE
                map 0 21 0 0 = 64; map 0 22 0 0 = 0; map 0 0 11 0 = NONE; map 0 21 0 0 = 64; map 0 22 0 0 = 1
                """);
    }
}
