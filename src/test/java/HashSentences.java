/** "Terms": what is told of HASH. */
final class HashSentences {
    private static final String CROWDED = "A key that comes to a BIN that has 8 or more: with a TABLE below 64"
            + " the TABLE is doubled, then (once); else the BIN is BUSHY.";
    private static final String DOUBLED = "Behind each key that came, if size * 4 > TABLE * 3, it is doubled.";
    private static final String PARTS = "Doubled: each BIN's keys go to their BINS in their order;"
            + " BINS of a BUSHY one are BUSHY if they have more than 6.";
    private static final String SPARSE = "A BUSHY one from which one goes is not any more if it has 6 or fewer.";
    private static final String CLEARED = "(Behind op 5 TABLE stays, no BIN is BUSHY.)";

    private HashSentences() {
    }

    static void holdAll(Sentences doc) {
        firstTable(doc);
        bins(doc);
        crowdedSmallTable(doc);
        crowdedLargeTable(doc);
        doubled(doc);
        partsOfBushyBins(doc);
        sparse(doc);
        cleared(doc);
    }

    private static void firstTable(Sentences doc) {
        String none = "HASH: TABLE: none at first";
        for (int capacity : new int[] {0, 1, 64, 1000}) {
            doc.hold(none, "CAPACITY " + capacity, "make 0 " + capacity + " 0 = 0; map 0 21 0 0 = 0; map 0 22 0 0 = 0");
        }
        doc.hold(none, "nor by ops that bring no key", """
                make 0 5 0 = 0; make 1 0 0 = 1; map 0 1 1 0 = NONE; map 0 2 1 0 = NONE; map 0 3 1 0 = 0
                map 0 4 0 0 = 0; map 0 5 0 0 = 0
                map 0 7 1 1 = NONE; map 0 9 0 0 = 0; map 0 18 0 0 = 0; map 0 19 0 1 = 1; map 0 20 0 1 = 0
                map 0 24 1 0 = 0; map 0 25 0 0 = 0
                cursor 0 = 2; move 2 1 0 = 0; item 0 0 0 ! IndexOutOfBounds; map 0 21 0 0 = 0
                """);
        String first = "with the first key the least power of 2 that is at least the CAPACITY and 1.";
        for (int capacity = 0; capacity <= 1000; capacity++) {
            int table = 1;
            while (table < capacity) {
                table *= 2;
            }
            // One key in a TABLE of 1 is more than three quarters of it.
            int behind = table == 1 ? 2 : table;
            doc.hold(first, "CAPACITY " + capacity, "make 0 " + capacity + " 0 = 0; map 0 0 5 1 = NONE; "
                    + "map 0 21 0 0 = " + behind);
        }
        for (String op : new String[] {"map 0 0 5 1 = NONE", "map 0 6 5 1 = NONE", "map 0 8 5 1 = 1",
                "map 0 20 0 1 = 1"}) {
            doc.hold(first, "by " + op, "make 0 5 0 = 0; make 1 0 0 = 1; map 1 0 5 1 = NONE; " + op + "; "
                    + "map 0 21 0 0 = 8");
        }
        doc.hold(first, "it stays when the last key goes, and for the next first one",
                "make 0 5 0 = 0; map 0 0 1 1 = NONE; map 0 2 1 0 = 1; map 0 21 0 0 = 8; map 0 0 2 1 = NONE; "
                        + "map 0 21 0 0 = 8");
    }

    private static void bins(Sentences doc) {
        String rules = "h of a key by RULE: 0 itself, 1 it mod 16, 2 7, 3 it * -1640531527;";
        doc.hold(rules, "0", "make 0 64 0 = 0; map 0 0 33 1 = NONE; map 0 0 17 1 = NONE; map 0 0 1 1 = NONE; "
                + "keys 0 = 1 17 33");
        doc.hold(rules, "1: BINS 0 .. 15 alone", "make 0 64 1 = 0; map 0 0 33 1 = NONE; map 0 0 16 1 = NONE; "
                + "map 0 0 15 1 = NONE\n"
                + "map 0 0 1 1 = NONE; map 0 0 -1 1 = NONE; map 0 0 65536 1 = NONE; keys 0 = 16 65536 33 1 15 -1");
        doc.hold(rules, "2: one BIN alone", "make 0 64 2 = 0; map 0 0 9 1 = NONE; map 0 0 0 1 = NONE; "
                + "map 0 0 MIN 1 = NONE; map 0 0 7 1 = NONE\n"
                + "keys 0 = 9 0 -2147483648 7");
        // By RULE 3, of 16 BINS: 0 has 0 and the least int, 8 has 5, 9 has 4, 11 has 7, 12 has 2, 13 has 3, 14 has 1,
        // 15 has -1 and -2.
        doc.hold(rules, "3, with a wrap-around", "make 0 16 3 = 0; map 0 0 -2 1 = NONE; map 0 0 1 1 = NONE; "
                + "map 0 0 3 1 = NONE; map 0 0 2 1 ="
                + " NONE; map 0 0 7 1 = NONE; map 0 0 4 1 = NONE; map 0 0 5 1 = NONE; map 0 0 MIN 1 = NONE; "
                + "map 0 0 0 1 = NONE; map 0 0 -1 1 = NONE\n"
                + "map 0 21 0 0 = 16; keys 0 = -2147483648 0 5 4 7 2 3 1 -2 -1");
        String bin = "BIN: h ^ (h >>> 16) mod TABLE.";
        doc.hold(bin, "the high half counts", "make 0 16 0 = 0; map 0 0 65536 1 = NONE; map 0 0 196610 1 = NONE; "
                + "map 0 0 0 1 = NONE\n"
                + "map 0 0 2 1 = NONE; keys 0 = 0 65536 196610 2");
        // MIN ^ MIN >>> 16 ends in 8000 (hex), MAX likewise; -1 in 0000, -2 in 0001, -65536 in FFFF
        doc.hold(bin, "the ends of the ints", "make 0 16 0 = 0; map 0 0 -65536 1 = NONE; map 0 0 -2 1 = NONE; "
                + "map 0 0 MAX 1 = NONE\n"
                + "map 0 0 MIN 1 = NONE; map 0 0 -1 1 = NONE; map 0 0 14 1 = NONE; "
                + "keys 0 = 2147483647 -2147483648 -1 -2 14 -65536");
        String order = "Order: by BINS, within one by coming.";
        doc.hold(order, "keys of two BINS", "make 0 8 0 = 0; map 0 0 9 1 = NONE; map 0 0 8 2 = NONE; "
                + "map 0 0 1 3 = NONE; map 0 0 0 4 = NONE\n"
                + "keys 0 = 8 0 9 1; values 0 = 2 4 1 3");
        doc.hold(order, "a VALUE anew keeps the place, a key anew does not", "make 0 8 2 = 0; map 0 0 1 1 = NONE; "
                + "map 0 0 2 2 = NONE\n"
                + "map 0 0 3 3 = NONE; map 0 0 1 9 = 1; keys 0 = 1 2 3; map 0 2 1 0 = 9; map 0 0 1 1 = NONE; "
                + "keys 0 = 2 3 1");
    }

    /** Keys that are multiples of the TABLE share BIN 0 by RULE 0. */
    private static String multiples(int of, int from, int to) {
        StringBuilder script = new StringBuilder();
        for (int i = from; i < to; i++) {
            script.append("map 0 0 " + of * i + " " + i + " = NONE\n");
        }
        return script.toString();
    }

    /** Eight keys of one BIN by RULE 0. */
    private static String eightIn(int bin, int table) {
        StringBuilder script = new StringBuilder();
        for (int i = 0; i < 8; i++) {
            script.append("map 0 0 " + (bin + table * i) + " 1 = NONE\n");
        }
        return script.toString();
    }

    private static void crowdedSmallTable(Sentences doc) {
        doc.hold(CROWDED, "a BIN that has 7: nothing", "make 0 16 2 = 0\n" + Sentences.puts(0, 0, 8, 1)
                + "map 0 21 0 0 = 16; map 0 22 0 0 = 0");
        doc.hold(CROWDED, "a BIN that has 8 of a TABLE of 16", "make 0 16 2 = 0\n" + Sentences.puts(0, 0, 9, 1)
                + "map 0 21 0 0 = 32; map 0 22 0 0 = 0");
        doc.hold(CROWDED, "a BIN that has 8 of a TABLE of 32", "make 0 32 2 = 0\n" + Sentences.puts(0, 0, 9, 1)
                + "map 0 21 0 0 = 64; map 0 22 0 0 = 0");
        doc.hold(CROWDED, "then one that has 9, then one that has 10", "make 0 16 2 = 0\n" + Sentences.puts(0, 0, 9, 1)
                + "map 0 21 0 0 = 32; map 0 0 9 1 = NONE; map 0 21 0 0 = 64; map 0 22 0 0 = 0; map 0 0 10 1 = NONE; "
                + "map 0 21 0 0 = 64; map 0 22 0 0 = 1");
        // The key is also the 13th of 16: the TABLE is 32 by then, so that it is not doubled again.
        doc.hold(CROWDED, "once", "make 0 16 0 = 0\n" + multiples(16, 0, 8) + Sentences.puts(0, 1, 5, 1)
                + "map 0 21 0 0 = 16; map 0 0 128 1 = NONE; map 0 21 0 0 = 32; "
                + "keys 0 = 0 32 64 96 128 1 2 3 4 16 48 80 112");
        doc.hold(CROWDED, "a key that is there does not come", "make 0 16 2 = 0\n" + Sentences.puts(0, 0, 8, 1)
                + "map 0 0 7 2 = 1; map 0 6 7 2 = 2; map 0 7 7 3 = 2; map 0 8 7 1 = 4; map 0 21 0 0 = 16");
        doc.hold(CROWDED, "a key of another BIN does not matter", "make 0 16 0 = 0\n" + multiples(16, 0, 8)
                + "map 0 0 1 1 = NONE; map 0 21 0 0 = 16");
        doc.hold(CROWDED, "the BINS beside a full one are not full", "make 0 32 0 = 0\n" + eightIn(5, 32)
                + "map 0 0 4 1 = NONE; map 0 0 6 1 = NONE; map 0 21 0 0 = 32; map 0 0 261 1 = NONE; map 0 21 0 0 = 64");
        for (String op : new String[] {"map 0 0 99 1 = NONE", "map 0 6 99 1 = NONE", "map 0 8 99 1 = 1",
                "map 0 20 0 1 = 1"}) {
            doc.hold(CROWDED, "by " + op, "make 0 32 2 = 0; make 1 0 0 = 1; map 1 0 99 1 = NONE\n"
                    + Sentences.puts(0, 0, 8, 1) + op
                    + "; map 0 21 0 0 = 64");
        }
    }

    private static void crowdedLargeTable(Sentences doc) {
        for (int capacity : new int[] {64, 65, 1000}) {
            int table = capacity == 64 ? 64 : capacity == 65 ? 128 : 1024;
            doc.hold(CROWDED, "a BIN that has 7, then 8 of a TABLE of " + table, "make 0 " + capacity + " 2 = 0\n"
                    + Sentences.puts(0, 0, 8, 1)
                    + "map 0 22 0 0 = 0; map 0 0 8 1 = NONE; map 0 22 0 0 = 1; map 0 21 0 0 = " + table);
        }
        for (int bin : new int[] {0, 1, 62, 63}) {
            doc.hold(CROWDED, "BIN " + bin + " of 64", "make 0 64 0 = 0\n" + eightIn(bin, 64) + "map 0 22 0 0 = 0; "
                    + "map 0 0 " + (bin + 512)
                    + " 1 = NONE; map 0 22 0 0 = 1; map 0 21 0 0 = 64");
        }
        doc.hold(CROWDED, "the BINS beside one that has 8 are not BUSHY", "make 0 64 0 = 0\n" + eightIn(5, 64)
                + "map 0 0 4 1 = NONE; map 0 0 6 1 = NONE; map 0 22 0 0 = 0; map 0 0 517 1 = NONE; map 0 22 0 0 = 1");
        doc.hold(CROWDED, "a key that is there does not come to a BIN of a TABLE of 64", "make 0 64 2 = 0\n"
                + Sentences.puts(0, 0, 8, 1)
                + "map 0 0 7 2 = 1; map 0 6 7 2 = 2; map 0 7 7 3 = 2; map 0 8 7 1 = 4; map 0 22 0 0 = 0");
        doc.hold(CROWDED, "of two BINS the one alone that has 8", "make 0 64 1 = 0\n" + multiples(16, 0, 8) + """
                map 0 0 1 1 = NONE; map 0 22 0 0 = 0; map 0 0 128 1 = NONE; map 0 22 0 0 = 1; map 0 0 17 1 = NONE
                map 0 0 33 1 = NONE
                map 0 0 49 1 = NONE; map 0 0 65 1 = NONE; map 0 0 81 1 = NONE; map 0 0 97 1 = NONE
                map 0 0 113 1 = NONE; map 0 22 0 0 = 1
                map 0 0 129 1 = NONE; map 0 22 0 0 = 2; map 0 21 0 0 = 64
                """);
        for (String op : new String[] {"map 0 0 99 1 = NONE", "map 0 6 99 1 = NONE", "map 0 8 99 1 = 1",
                "map 0 20 0 1 = 1"}) {
            doc.hold(CROWDED, "BUSHY by " + op, "make 0 64 2 = 0; make 1 0 0 = 1; map 1 0 99 1 = NONE\n"
                    + Sentences.puts(0, 0, 8, 1) + op
                    + "; map 0 22 0 0 = 1; map 0 21 0 0 = 64");
        }
    }

    private static void doubled(Sentences doc) {
        int[][] edges = {{1, 0}, {2, 1}, {4, 3}, {8, 6}, {16, 12}, {32, 24}, {64, 48}, {128, 96}, {256, 192}, {512, 384}};
        for (int[] edge : edges) {
            int table = edge[0];
            int most = edge[1];
            String stays = most == 0 ? "" : "map 0 21 0 0 = " + table + "\n";
            doc.hold(DOUBLED, most + " keys stay in a TABLE of " + table + ", one more doubles it", "make 0 " + table
                    + " 0 = 0\n"
                    + Sentences.puts(0, 0, most, 1) + stays + "map 0 0 " + most + " 1 = NONE; map 0 21 0 0 = "
                    + 2 * table);
        }
        doc.hold(DOUBLED, "not behind a key that was there", """
                make 0 4 0 = 0; map 0 0 1 1 = NONE; map 0 0 2 1 = NONE; map 0 0 3 1 = NONE; map 0 0 3 2 = 1
                map 0 6 3 2 = 2; map 0 7 3 4 = 2
                map 0 8 3 1 = 5; map 0 21 0 0 = 4; map 0 7 4 1 = NONE; map 0 21 0 0 = 4
                """);
        for (String op : new String[] {"map 0 0 99 1 = NONE", "map 0 6 99 1 = NONE", "map 0 8 99 1 = 1",
                "map 0 8 99 0 = 0", "map 0 20 0 1 = 1"}) {
            doc.hold(DOUBLED, "by " + op, "make 0 4 0 = 0; make 1 0 0 = 1; map 1 0 99 1 = NONE\n"
                    + Sentences.puts(0, 0, 3, 1) + op
                    + "; map 0 21 0 0 = 8");
        }
        doc.hold(DOUBLED, "it is never halved", "make 0 0 0 = 0\n" + Sentences.puts(0, 0, 13, 1)
                + "map 0 21 0 0 = 32; map 0 25 1 0 = 13; map 0 21 0 0 = 32; map 0 0 1 1 = NONE; map 0 21 0 0 = 32");
        doc.hold(DOUBLED, "step by step with op 20", "make 0 0 0 = 0; make 2 0 0 = 1\n" + Sentences.puts(1, 0, 100, 1)
                + "map 0 20 0 1 = 100; map 0 21 0 0 = 256; map 0 4 0 0 = 100");
    }

    private static void partsOfBushyBins(Sentences doc) {
        doc.hold(PARTS, "in their order", "make 0 4 0 = 0; map 0 0 12 1 = NONE; map 0 0 8 2 = NONE; "
                + "map 0 0 4 3 = NONE; keys 0 = 12 8 4\n"
                + "map 0 0 0 4 = NONE; map 0 21 0 0 = 8; keys 0 = 8 0 12 4; values 0 = 2 4 1 3");
        // Even multiples of 64 stay in BIN 0 of 128, odd ones go to BIN 64; other keys bring the 49.
        int[][] evenOddBushy = {{9, 0, 1}, {7, 2, 1}, {7, 6, 1}, {7, 7, 2}, {6, 6, 0}, {6, 7, 1}, {2, 7, 1}, {0, 9, 1},
            {8, 8, 2}, {6, 3, 0}, {3, 6, 0}};
        for (int[] due : evenOddBushy) {
            StringBuilder script = new StringBuilder("make 0 64 0 = 0\n");
            for (int i = 0; i < due[0]; i++) {
                script.append("map 0 0 " + 128 * i + " 1 = NONE\n");
            }
            for (int i = 0; i < due[1]; i++) {
                script.append("map 0 0 " + (128 * i + 64) + " 1 = NONE\n");
            }
            int others = 49 - due[0] - due[1];
            script.append("map 0 22 0 0 = 1\n" + Sentences.puts(0, 1, others, 1) + "map 0 21 0 0 = 64; "
                    + "map 0 22 0 0 = 1; map 0 0 "
                    + others + " 1 = NONE; map 0 21 0 0 = 128; map 0 22 0 0 = " + due[2]);
            doc.hold(PARTS, due[0] + " and " + due[1] + " of a BUSHY BIN", script.toString());
        }
        doc.hold(PARTS, "of one that is not BUSHY none is", "make 0 64 0 = 0\n" + multiples(128, 0, 8)
                + Sentences.puts(0, 1, 41, 1)
                + "map 0 21 0 0 = 64; map 0 0 41 1 = NONE; map 0 21 0 0 = 128; map 0 22 0 0 = 0");
        doc.hold(PARTS, "the key that makes it BUSHY doubles the TABLE too", "make 0 64 0 = 0\n" + multiples(128, 0, 8)
                + Sentences.puts(0, 1, 41, 1)
                + "map 0 22 0 0 = 0; map 0 0 1024 1 = NONE; map 0 21 0 0 = 128; map 0 22 0 0 = 1");
        doc.hold(PARTS, "the key that makes it BUSHY doubles the TABLE too, and both parts are small",
                "make 0 64 0 = 0\n" + multiples(64, 0, 8)
                + Sentences.puts(0, 1, 41, 1) + "map 0 22 0 0 = 0; map 0 0 512 1 = NONE; map 0 21 0 0 = 128; "
                + "map 0 22 0 0 = 0");
    }

    private static void sparse(Sentences doc) {
        String nine = "make 0 64 2 = 0\n" + Sentences.puts(0, 0, 9, 1) + "map 0 22 0 0 = 1\n";
        doc.hold(SPARSE, "it has 8, 7, then 6", nine + "map 0 2 0 0 = 1; map 0 22 0 0 = 1; map 0 2 1 0 = 1; "
                + "map 0 22 0 0 = 1; map 0 2 2 0 = 1; map 0 22 0 0 = 0");
        doc.hold(SPARSE, "by op 8", nine + "map 0 8 0 -1 = NONE; map 0 8 1 -1 = NONE; map 0 22 0 0 = 1; "
                + "map 0 8 2 -1 = NONE; map 0 22 0 0 = 0");
        doc.hold(SPARSE, "by op 25, 7 are left", nine + "map 0 0 3 2 = 1; map 0 0 4 2 = 1; map 0 25 2 0 = 2; "
                + "map 0 22 0 0 = 1");
        doc.hold(SPARSE, "by op 25, 6 are left", nine + "map 0 0 3 2 = 1; map 0 0 4 2 = 1; map 0 0 8 2 = 1; "
                + "map 0 25 2 0 = 3; map 0 22 0 0 = 0");
        doc.hold(SPARSE, "by a CURSOR", nine + "cursor 0 = 1; move 1 0 0 = 0; move 1 2 0 = 0; move 1 0 0 = 1; "
                + "move 1 2 0 = 1; map 0 22 0 0 = 1\n"
                + "move 1 0 0 = 2; move 1 2 0 = 2; map 0 22 0 0 = 0; move 1 0 0 = 3");
        doc.hold(SPARSE, "none goes: it stays", nine + "map 0 2 0 0 = 1; map 0 2 1 0 = 1; map 0 2 1 0 = NONE; "
                + "map 0 25 9 0 = 0; map 0 0 5 1 = 1; map 0 22 0 0 = 1");
        doc.hold(SPARSE, "with 7 it is still BUSHY when one comes", nine + "map 0 2 0 0 = 1; map 0 2 1 0 = 1; "
                + "map 0 0 0 1 = NONE; map 0 22 0 0 = 1");
        doc.hold(SPARSE, "BUSHY again by a key that comes to 8", nine + "map 0 2 0 0 = 1; map 0 2 1 0 = 1; "
                + "map 0 2 2 0 = 1; map 0 22 0 0 = 0; map 0 0 0 1 = NONE\n"
                + "map 0 0 1 1 = NONE; map 0 22 0 0 = 0; map 0 0 2 1 = NONE; map 0 22 0 0 = 1");
        doc.hold(SPARSE, "keys of the BINS beside it do not count", "make 0 64 0 = 0\n" + eightIn(5, 64)
                + "map 0 0 517 1 = NONE; map 0 0 4 1 = NONE; map 0 0 6 1 = NONE; map 0 2 5 0 = 1; map 0 2 69 0 = 1; "
                + "map 0 22 0 0 = 1; map 0 2 133 0 = 1; map 0 22 0 0 = 0");
        doc.hold(SPARSE, "of another BIN", "make 0 64 1 = 0\n" + multiples(16, 0, 9) + "map 0 0 1 1 = NONE; "
                + "map 0 22 0 0 = 1; map 0 2 1 0 = 1; map 0 22 0 0 = 1\n"
                + "map 0 0 1 1 = NONE; map 0 2 0 0 = 0; map 0 2 16 0 = 1; map 0 2 1 0 = 1; map 0 22 0 0 = 1; "
                + "map 0 2 32 0 = 2; map 0 22 0 0 = 0");
    }

    private static void cleared(Sentences doc) {
        doc.hold(CLEARED, "a BUSHY one", "make 0 64 2 = 0\n" + Sentences.puts(0, 0, 9, 1) + "map 0 22 0 0 = 1; "
                + "map 0 5 0 0 = 9; map 0 22 0 0 = 0; map 0 21 0 0 = 64\n"
                + Sentences.puts(0, 0, 8, 1) + "map 0 22 0 0 = 0; map 0 0 8 1 = NONE; map 0 22 0 0 = 1; "
                + "map 0 21 0 0 = 64");
        for (int bin : new int[] {0, 1, 62, 63}) {
            doc.hold(CLEARED, "BIN " + bin + " of 64", "make 0 64 0 = 0\n" + eightIn(bin, 64) + "map 0 0 " + (bin + 512)
                    + " 1 = NONE; map 0 22 0 0 = 1; map 0 5 0 0 = 9; map 0 22 0 0 = 0; map 0 21 0 0 = 64");
        }
        doc.hold(CLEARED, "two BUSHY ones", "make 0 64 0 = 0\n" + eightIn(0, 64) + eightIn(63, 64)
                + "map 0 0 512 1 = NONE; map 0 0 575 1 = NONE; map 0 22 0 0 = 2; map 0 5 0 0 = 18; map 0 22 0 0 = 0");
        doc.hold(CLEARED, "a TABLE that was doubled", "make 0 0 0 = 0\n" + Sentences.puts(0, 0, 13, 1)
                + "map 0 21 0 0 = 32; map 0 5 0 0 = 13; map 0 21 0 0 = 32; map 0 0 1 1 = NONE; map 0 21 0 0 = 32");
        doc.hold(CLEARED, "without a TABLE there is none", "make 0 9 0 = 0; map 0 5 0 0 = 0; map 0 21 0 0 = 0; "
                + "map 0 0 1 1 = NONE; map 0 21 0 0 = 16");
    }
}
