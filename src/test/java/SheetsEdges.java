/** Promises 36 to 42: hold, as, sheet, write, copy, load, judge. */
final class SheetsEdges {
    private final Edges edges;

    SheetsEdges(Edges edges) {
        this.edges = edges;
    }

    void all() {
        hold();
        holdBeyond();
        as();
        asRefused();
        sheet();
        sheetRefused();
        write();
        writeRefused();
        copy();
        copyAsTheyWere();
        copyNoSheet();
        copyBounds();
        load();
        loadEnds();
        loadRefused();
        judge();
        judgeRefused();
        judgeState();
    }

    private void hold() {
        edges.promise(36, "A SPOT holds the one of a ROOM, or nothing (-1): 1.");
        edges.house().due("hold 0 -1", 1).due("hold 9 -1", 1).due("count 7", 0);
        Story s = edges.house(0, 0, 0, 0, 0, 0, 0, 0).due("hold 0 0", 1).due("hold 9 7", 1).due("as 0 0", 0).due("as 9 0", 7);
        s.due("count 7", 2).due("hold 9 0", 1).due("as 9 0", 0).due("as 0 0", 0).due("hold 0 -1", 1).due("as 0 0", Check.MISSING)
            .due("as 9 0", 0).due("count 7", 1).due("hold 0 -1", 1).due("count 7", 1);
    }

    private void holdBeyond() {
        edges.promise(36, "BEYOND.");
        edges.house().beyond("hold # -1", 0, 9).beyond("hold 0 #", -1, -1);
        edges.house(0).beyond("hold # 0", 0, 9).beyond("hold 9 #", -1, 0);
        edges.house(0, 0, 0, 0, 0, 0, 0, 0).beyond("hold # 7", 0, 9).beyond("hold 0 #", -1, 7);
    }

    private void as() {
        edges.promise(37, "What a SPOT holds as one of a kind (0 to 6): the number of the ROOM.");
        Story s = edges.house(0, 1, 2, 3, 4, 5, 6, 6);
        for (int room = 0; room < 8; room++) {
            s.does("hold " + room + " " + room, "hold 9 " + room).due("as " + room + " 0", room).due("as 9 0", room);
        }
        s.due("as 0 0", 0).due("as 6 6", 6).due("as 7 6", 7);
        // By the KIND that the one there has by then.
        s.does("change 7 0 4").due("as 7 4", 7).due("as 7 6", Check.KIND).does("move 7 0").due("as 7 4", Check.KIND)
            .due("as 0 4", 0);
    }

    private void asRefused() {
        edges.promise(37, "BEYOND.");
        edges.house().beyond("as # 0", 0, 9).beyond("as 0 #", 0, 6);
        edges.house(0).does("hold 0 0", "hold 9 0").beyond("as # 0", 0, 9).beyond("as 9 #", 0, 6).refused("as 10 7", Check.BEYOND);
        edges.promise(37, "MISSING: it holds nothing.");
        edges.house().refused("as 0 0", Check.MISSING).refused("as 9 6", Check.MISSING);
        edges.house(0).does("hold 0 0").refused("as 1 0", Check.MISSING).does("hold 0 -1").refused("as 0 0", Check.MISSING)
            .refused("as 0 1", Check.MISSING);
        edges.promise(37, "KIND: it isn't of that kind, nor of one under it.");
        int[] counts = {1, 3, 5, 13, 19, 33, 69};
        for (int kind = 0; kind < 7; kind++) {
            Story s = edges.house(kind).does("hold 0 0");
            for (int as = 0; as < 7; as++) {
                if ((counts[kind] >> as & 1) == 1) {
                    s.due("as 0 " + as, 0);
                } else {
                    s.refused("as 0 " + as, Check.KIND);
                }
            }
        }
    }

    private void sheet() {
        edges.promise(38, "A sheet has n numbers, all 0, of 8, 16 or 32 bits; bits 0: it is MISSING: n (0 if it is MISSING).");
        int[] allBits = {8, 16, 32};
        for (int bits : allBits) {
            Story s = edges.house(0).due("sheet 0 " + bits + " 0", 0).due("write 0 0 1", Check.BEYOND).due("load 0", 0);
            s.due("sheet 0 " + bits + " 1", 1).due("write 0 0 1", 1).due("write 0 1 1", Check.BEYOND);
            s.due("sheet 3 " + bits + " 40", 40).due("write 3 39 1", 1).due("write 3 40 1", Check.BEYOND);
            // All 0 anew, and as many as are told now.
            s.due("sheet 0 " + bits + " 2", 2).due("load 0", 1).due("of 0 2", 0).due("copy 0 1 0 0 1", 1).due("load 0", 1)
                .due("of 0 2", 0);
            s.due("sheet 3 " + bits + " 39", 39).due("copy 3 38 3 0 1", 1).due("load 3", 1).due("of 0 2", 0)
                .due("write 3 39 1", Check.BEYOND);
        }
        Story missing = edges.house(0).does("sheet 0 8 40").due("sheet 0 0 0", 0).due("load 0", Check.MISSING);
        missing.due("sheet 0 0 40", 0).due("load 0", Check.MISSING).due("sheet 3 0 1", 0).due("load 3", Check.MISSING);
        missing.due("sheet 0 16 3", 3).due("load 0", 1).due("load 1", Check.MISSING);
    }

    private void sheetRefused() {
        edges.promise(38, "BEYOND: no such sheet, other bits.");
        Story s = edges.house(0).does("sheet 0 16 3", "write 0 0 5").beyond("sheet # 8 1", 0, 3).beyond("sheet # 0 -1", 0, 3);
        int[] otherBits = {-8, -1, 1, 7, 9, 15, 17, 24, 31, 33, 64, Integer.MIN_VALUE, Integer.MAX_VALUE};
        for (int bits : otherBits) {
            s.refused("sheet 0 " + bits + " 1", Check.BEYOND).refused("sheet 0 " + bits + " -1", Check.BEYOND);
        }
        s.due("load 0", 1).due("of 0 2", 5);
        edges.promise(38, "SIZE: n is below 0 (also with bits 0).");
        Story below = edges.house(0).does("sheet 0 16 3", "write 0 0 5");
        int[] allBits = {0, 8, 16, 32};
        for (int bits : allBits) {
            below.refused("sheet 0 " + bits + " -1", Check.SIZE).refused("sheet 3 " + bits + " -2147483648", Check.SIZE);
        }
        below.due("load 0", 1).due("of 0 2", 5);
        edges.promise(38, "BEYOND: n is above 40 (also with bits 0).");
        Story above = edges.house(0).does("sheet 0 16 3", "write 0 0 5");
        for (int bits : allBits) {
            above.refused("sheet 0 " + bits + " 41", Check.BEYOND).refused("sheet 3 " + bits + " 2147483647", Check.BEYOND);
        }
        above.due("load 0", 1).due("of 0 2", 5).due("sheet 0 0 40", 0);
    }

    private void write() {
        edges.promise(39, "Number i of a sheet becomes v (its lowest bits): 1.");
        Story s = edges.house(0, 0).does("sheet 0 8 40", "sheet 3 32 1").due("write 0 0 127", 1).due("write 0 39 3", 1);
        s.due("write 3 0 999", 1).due("load 3", 1).due("of 0 2", 999).due("load 0", 2).due("of 0 2", 127).due("of 1 2", 0);
        s.due("copy 0 39 0 1 1", 1).due("load 0", 2).due("of 1 2", 3);
        // Too wide: the lowest bits are left, told with their sign; 7 stays where that is no COAL.
        dueWritten(8, 128, 7);
        dueWritten(8, -128, 7);
        dueWritten(8, -129, 127);
        dueWritten(8, -256, 0);
        dueWritten(8, 1023, 7);
        dueWritten(8, Integer.MIN_VALUE, 0);
        dueWritten(8, Integer.MAX_VALUE, 7);
        dueWritten(16, 32767, 7);
        dueWritten(16, 65536 + 998, 998);
        dueWritten(16, -65536 + 5, 5);
        dueWritten(16, Integer.MIN_VALUE, 0);
        dueWritten(16, Integer.MAX_VALUE, 7);
        dueWritten(32, 65536 + 998, 7);
        dueWritten(32, Integer.MIN_VALUE, 7);
        dueWritten(32, Integer.MAX_VALUE, 7);
    }

    private void dueWritten(int bits, int v, int due) {
        edges.house(0).does("change 0 2 7", "sheet 1 " + bits + " 1").due("write 1 0 " + v, 1).does("load 1").due("of 0 2", due);
    }

    private void writeRefused() {
        edges.promise(39, "BEYOND: no such sheet.");
        edges.house().beyond("write # 0 1", 0, 3);
        edges.house().does("sheet 0 8 40", "sheet 3 8 40").beyond("write # 40 1", 0, 3);
        edges.promise(39, "MISSING.");
        edges.house().refused("write 0 0 1", Check.MISSING).refused("write 3 -1 1", Check.MISSING)
            .refused("write 3 40 1", Check.MISSING).does("sheet 3 8 1", "sheet 3 0 1").refused("write 3 0 1", Check.MISSING);
        edges.promise(39, "BEYOND: no such number.");
        edges.house().does("sheet 0 8 40").beyond("write 0 # 1", 0, 39);
        edges.house().does("sheet 3 32 1", "write 3 0 5").beyond("write 3 # 1", 0, 0);
        edges.house().does("sheet 2 16 0").refused("write 2 0 1", Check.BEYOND).refused("write 2 -1 1", Check.BEYOND);
    }

    /** A sheet of the numbers told. */
    private static Story filled(Story s, int sheet, int bits, int... numbers) {
        s.does("sheet " + sheet + " " + bits + " " + numbers.length);
        for (int i = 0; i < numbers.length; i++) {
            s.does("write " + sheet + " " + i + " " + numbers[i]);
        }
        return s;
    }

    private static Story dueNumbers(Story s, int sheet, int... numbers) {
        s.due("load " + sheet, numbers.length);
        for (int room = 0; room < numbers.length; room++) {
            s.due("of " + room + " 2", numbers[room]);
        }
        return s;
    }

    private void copy() {
        edges.promise(40, "n numbers of a sheet from one on come to another one from one on (as they all were): n.");
        Story s = filled(filled(edges.house(0, 0, 0, 0), 0, 16, 1, 2, 3, 4), 3, 16, 5, 6, 7, 8);
        s.due("copy 0 0 3 0 1", 1);
        dueNumbers(s, 3, 1, 6, 7, 8).due("copy 0 3 3 3 1", 1);
        dueNumbers(s, 3, 1, 6, 7, 4).due("copy 3 1 0 0 2", 2);
        dueNumbers(s, 0, 6, 7, 3, 4).due("copy 0 0 3 0 4", 4);
        dueNumbers(s, 3, 6, 7, 3, 4).due("copy 0 0 3 1 0", 0);
        dueNumbers(s, 3, 6, 7, 3, 4);
        Story full = edges.house(0).does("sheet 1 8 40", "sheet 2 8 40", "write 1 39 9", "write 1 0 4");
        full.due("copy 1 0 2 0 40", 40).due("load 2", 1).due("of 0 2", 4).due("copy 2 39 2 0 1", 1).due("load 2", 1)
            .due("of 0 2", 9);
        edges.house().does("sheet 1 8 0", "sheet 2 8 0").due("copy 1 0 2 0 0", 0).due("copy 1 0 1 0 0", 0);
    }

    private void copyAsTheyWere() {
        edges.promise(40, "(as they all were)");
        Story up = filled(edges.house(0, 0, 0, 0), 0, 8, 1, 2, 3, 4).due("copy 0 0 0 1 3", 3);
        dueNumbers(up, 0, 1, 1, 2, 3);
        Story down = filled(edges.house(0, 0, 0, 0), 0, 32, 1, 2, 3, 4).due("copy 0 1 0 0 3", 3);
        dueNumbers(down, 0, 2, 3, 4, 4);
        Story same = filled(edges.house(0, 0, 0, 0), 0, 32, 1, 2, 3, 4).due("copy 0 0 0 0 4", 4);
        dueNumbers(same, 0, 1, 2, 3, 4);
    }

    private void copyNoSheet() {
        edges.promise(40, "BEYOND: no such sheet (either).");
        edges.house().beyond("copy # 0 0 0 1", 0, 3).beyond("copy 0 0 # 0 1", 0, 3);
        edges.house().does("sheet 0 8 1", "sheet 3 8 1").beyond("copy # 0 3 0 1", 0, 3).beyond("copy 3 0 # 0 1", 0, 3)
            .refused("copy 1 0 4 0 1", Check.BEYOND).refused("copy 4 0 1 0 1", Check.BEYOND);
        edges.promise(40, "MISSING: one is.");
        edges.house().does("sheet 0 8 1").refused("copy 0 0 1 0 1", Check.MISSING).refused("copy 1 0 0 0 1", Check.MISSING)
            .refused("copy 1 0 2 0 1", Check.MISSING).refused("copy 1 0 1 0 0", Check.MISSING)
            .refused("copy 0 -1 3 0 1", Check.MISSING);
        edges.promise(40, "KIND: they are not of as many bits.");
        Story s = edges.house().does("sheet 0 8 1", "sheet 1 16 1", "sheet 2 32 1");
        s.refused("copy 0 0 1 0 1", Check.KIND).refused("copy 1 0 0 0 1", Check.KIND).refused("copy 1 0 2 0 1", Check.KIND)
            .refused("copy 2 0 0 0 0", Check.KIND).refused("copy 0 -1 1 5 9", Check.KIND);
    }

    private void copyBounds() {
        edges.promise(40, "BEYOND: one has not so many, or from, to or n is below 0.");
        Story s = filled(filled(edges.house(), 0, 16, 1, 2, 3), 1, 16, 4, 5, 6, 7);
        // The lesser one, whether it gives or takes, then the first and the last place of each.
        s.refused("copy 0 0 1 0 4", Check.BEYOND).refused("copy 1 0 0 0 4", Check.BEYOND).due("copy 0 0 1 0 3", 3);
        s.refused("copy 0 1 1 0 3", Check.BEYOND).refused("copy 0 0 1 2 3", Check.BEYOND).due("copy 0 1 1 2 2", 2);
        s.refused("copy 0 3 1 0 1", Check.BEYOND).due("copy 0 2 1 3 1", 1).refused("copy 0 0 1 4 1", Check.BEYOND);
        s.due("copy 0 3 1 4 0", 0).refused("copy 0 4 1 4 0", Check.BEYOND).refused("copy 0 3 1 5 0", Check.BEYOND);
        s.refused("copy 0 -1 1 0 1", Check.BEYOND).refused("copy 0 0 1 -1 1", Check.BEYOND)
            .refused("copy 0 0 1 0 -1", Check.BEYOND).refused("copy 0 -1 1 0 0", Check.BEYOND)
            .refused("copy 0 0 1 -1 0", Check.BEYOND);
        int far = Integer.MAX_VALUE;
        s.refused("copy 0 " + far + " 1 0 1", Check.BEYOND).refused("copy 0 0 1 " + far + " 1", Check.BEYOND);
        s.refused("copy 0 0 1 0 " + far, Check.BEYOND).refused("copy 0 " + far + " 1 " + far + " " + far, Check.BEYOND);
        s.refused("copy 0 0 1 0 -2147483648", Check.BEYOND).refused("copy 0 -2147483648 1 0 1", Check.BEYOND)
            .refused("copy 0 0 1 -2147483648 1", Check.BEYOND);
        edges.house().does("sheet 0 8 40").refused("copy 0 0 0 0 41", Check.BEYOND).refused("copy 0 40 0 0 1", Check.BEYOND)
            .refused("copy 0 0 0 40 1", Check.BEYOND).due("copy 0 39 0 0 1", 1);
    }

    private void load() {
        edges.promise(41, "Numbers of a sheet, from its begin on, become COAL of ROOMS 0, 1, ..: how many came.");
        edges.house(0).does("sheet 0 8 0").due("load 0", 0).due("of 0 2", 50);
        Story s = filled(edges.house(0, 0, 0, 0, 0, 0, 0, 0), 3, 16, 0, 999, 2, 3, 4, 5, 6, 7);
        dueNumbers(s, 3, 0, 999, 2, 3, 4, 5, 6, 7);
        Story less = filled(edges.house(0, 0, 0), 0, 32, 8, 9).due("load 0", 2).due("of 0 2", 8).due("of 1 2", 9);
        less.due("of 2 2", 50).due("of 0 1", 100);
    }

    private void loadEnds() {
        edges.promise(41, "It ends at the first that isn't 0 to 999, or for which there is no ROOM.");
        int[] wrong = {-1, 1000, Integer.MIN_VALUE, Integer.MAX_VALUE};
        for (int v : wrong) {
            filled(edges.house(0, 0, 0), 0, 32, 0, v, 5).due("load 0", 1).due("of 0 2", 0).due("of 1 2", 50).due("of 2 2", 50);
            filled(edges.house(0, 0), 0, 32, v, 5).due("load 0", 0).due("of 0 2", 50).due("of 1 2", 50);
            filled(edges.house(0, 0), 0, 32, 999, 0, v).due("load 0", 2).due("of 0 2", 999).due("of 1 2", 0);
        }
        edges.house().does("sheet 0 8 40").due("load 0", 0);
        edges.house(0).does("sheet 0 8 40").due("load 0", 1).due("count 2", 0);
        edges.house(0, 0, 0, 0, 0, 0, 0, 0).does("sheet 0 8 40").due("load 0", 8).due("count 2", 0);
        edges.house(0, 0, 0, 0, 0, 0, 0, 0).does("sheet 0 8 7").due("load 0", 7).due("count 2", 50).due("of 7 2", 50);
    }

    private void loadRefused() {
        edges.promise(41, "BEYOND: no such sheet.");
        edges.house().beyond("load #", 0, 3);
        edges.house(0).does("sheet 0 8 1", "sheet 3 8 1").beyond("load #", 0, 3);
        edges.promise(41, "MISSING.");
        edges.house(0).refused("load 0", Check.MISSING).refused("load 3", Check.MISSING).does("sheet 3 8 0").due("load 3", 0)
            .does("sheet 3 0 0").refused("load 3", Check.MISSING);
    }

    private void judge() {
        edges.promise(42, "THE READER: numbers of a sheet are WARMTHS of a ROOM behind 1, 2, .. HOURS AHEAD: 0 if all are; else 1 and "
            + "the place of the first that isn't.");
        edges.house(0).does("sheet 0 8 0").due("judge 0 0", 0);
        // 100, then 92, 85, 79.
        filled(edges.house(0), 0, 8, 92, 85, 79).due("judge 0 0", 0);
        filled(edges.house(0), 0, 8, 91, 85, 79).due("judge 0 0", 1);
        filled(edges.house(0), 0, 8, 92, 86, 79).due("judge 0 0", 2);
        filled(edges.house(0), 0, 8, 92, 85, 78).due("judge 0 0", 3);
        filled(edges.house(0), 0, 8, 92, 86, 78).due("judge 0 0", 2);
        filled(edges.house(0), 0, 8, 100, 92, 85).due("judge 0 0", 1);
        // Forty numbers: OUT keeps it at 100.
        Story forty = edges.house(0, 0, 0, 0, 0, 0, 0, 0).does("out 100", "change 7 1 100", "change 6 5 1", "sheet 3 16 40");
        for (int i = 0; i < 40; i++) {
            forty.does("write 3 " + i + " 100");
        }
        forty.due("judge 3 7", 0).due("judge 3 0", 1).does("write 3 39 101").due("judge 3 7", 40);
        // 205 has no place in 8 bits.
        Story warm = edges.house(0).does("out 100", "change 0 3 20", "change 0 1 210");
        filled(warm, 1, 8, 205).due("judge 1 0", 1);
        filled(warm, 1, 16, 205).due("judge 1 0", 0);
        filled(warm, 1, 32, 205).due("judge 1 0", 0).due("of 0 1", 210).due("count 0", 0);
    }

    private void judgeRefused() {
        edges.promise(42, "BEYOND: no such sheet.");
        edges.house().beyond("judge # 0", 0, 3);
        edges.house(0).does("sheet 0 8 1", "sheet 3 8 1").beyond("judge # 0", 0, 3);
        edges.promise(42, "MISSING.");
        edges.house().refused("judge 0 0", Check.MISSING).refused("judge 3 0", Check.MISSING);
        edges.house(0).refused("judge 3 0", Check.MISSING).refused("judge 0 1", Check.MISSING)
            .refused("judge 0 -1", Check.MISSING);
        edges.promise(42, "BEYOND: no such ROOM.");
        edges.house().does("sheet 0 8 0").refused("judge 0 0", Check.BEYOND);
        edges.house(0).does("sheet 3 8 1").beyond("judge 3 #", 0, 0);
        edges.house(0, 0, 0, 0, 0, 0, 0, 0).does("sheet 0 8 0").beyond("judge 0 #", 0, 7).due("judge 0 7", 0);
    }

    private void judgeState() {
        edges.promise(42, "STATE: HOUR would be above 9999.");
        edges.late(9959, 0).does("out 100", "sheet 0 8 40").due("judge 0 0", 1).does("hours 1")
            .refused("judge 0 0", Check.STATE).refused("judge 0 1", Check.BEYOND).does("sheet 0 8 39").due("judge 0 0", 1);
        edges.late(9999, 0).does("sheet 0 8 0").due("judge 0 0", 0).does("sheet 0 8 1").refused("judge 0 0", Check.STATE)
            .refused("judge 0 1", Check.BEYOND).refused("judge 1 0", Check.MISSING);
    }
}
