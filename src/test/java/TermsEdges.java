/** The Terms: findings, ROOMS and those who live there, an HOUR, TEXTS, SPOTS and SHEETS. */
final class TermsEdges {
    private final Edges edges;

    TermsEdges(Edges edges) {
        this.edges = edges;
    }

    void all() {
        findings();
        seedIsNoFinding();
        findingsChangeNothing();
        findingsInOrder();
        quotientsAreCut();
        setsAreBits();
        leastNumberCounts();
        eightRooms();
        kindsUnderKinds();
        atFirst();
        heatsThereOrNot();
        damperWastes();
        out();
        wants();
        slowWants();
        stokes();
        hourAtFirstAndLast();
        allAtOnce();
        gets();
        warmthAtMost();
        loses();
        hourIsOneMore();
        stateOfStoking();
        rest();
        coldBelow60();
        aheadChangesNothing();
        draws();
        spots();
        sheets();
        signs();
    }

    private void findings() {
        edges.terms("LOW is -1000001; LOW BEYOND, LOW - 1 FULL, LOW - 2 KIND, LOW - 3 NONE, LOW - 4 STATE, LOW - 5 MISSING, "
            + "LOW - 6 SIZE.");
        edges.house().due("out 101", -1000001).due("travel 1", -1000005).due("undo", -1000004).due("load 0", -1000006)
            .due("sheet 0 8 -1", -1000007);
        edges.house(0, 0, 0, 0, 0, 0, 0, 0).does("hold 0 0").due("room 0", -1000002).due("as 0 1", -1000003);
    }

    private void seedIsNoFinding() {
        edges.terms("What seed() and count(6) tell, z, may be any int: that is no finding.");
        Story s = edges.house();
        int before = 1;
        int[] like = {-1000000, Check.BEYOND, Check.FULL, Check.KIND, Check.NONE, Check.STATE, Check.MISSING, Check.SIZE,
            -1000008, Integer.MIN_VALUE, Integer.MAX_VALUE, 0};
        for (int z : like) {
            s.due("seed " + z, before).due("count 6", z);
            before = z;
        }
        s.due("status -1", 0);
    }

    /** Everything that an object can hold is there, so that a refused call has much to spoil. */
    private Story rich() {
        Story s = edges.house(Check.JUST, Check.MISER, Check.SLOW);
        s.all(1, 90, 110, 130).all(2, 5, 6, 700).all(4, 1, 2, 0).all(6, 0, 1, 2).all(7, 2, 3, 0).all(8, 0, 1, 3);
        s.does("change 1 5 1", "out 33", "seed 99", "hold 4 1", "sheet 0 16 3", "write 0 1 7", "sheet 1 8 2", "image");
        return s.does("hours 1", "hold 5 2", "change 0 1 200", "write 1 0 9").feeds("even; out 3");
    }

    private void findingsChangeNothing() {
        edges.terms("one that answers a finding changes nothing but status().");
        Story s = rich();
        String[] beyond = {"room 7", "of 3 0", "change 0 1 301", "out 101", "heaters 3", "reach 3", "move 0 3", "hours 101",
            "now 6", "ahead 101 0", "cold 3", "spent 3", "spread 3 1", "kindFor 0 61", "tempted 61", "missed 61",
            "warmest 25", "exchange 25", "deal 25", "orders 4 1", "coal 3 1", "wall 3 1", "turn 3 1", "damper 3 1", "own 61",
            "surely 3", "travel 13", "feed 32 5", "hold 10 0", "as 10 0", "sheet 4 8 1", "sheet 0 8 41", "write 4 0 1",
            "write 0 3 1", "copy 0 0 4 0 1", "copy 0 0 0 1 3", "load 4", "judge 4 0", "count 8", "status 7"};
        for (String call : beyond) {
            s.refused(call, Check.BEYOND);
        }
        s.refused("as 4 1", Check.KIND).refused("as 0 0", Check.MISSING).refused("write 2 0 1", Check.MISSING);
        s.refused("copy 0 0 2 0 1", Check.MISSING).refused("copy 0 0 1 0 1", Check.KIND).refused("load 2", Check.MISSING);
        s.refused("judge 2 0", Check.MISSING).refused("sheet 0 8 -1", Check.SIZE).refused("spent 2", Check.NONE);
        Story full = rich().does("room 0", "room 0", "room 0", "room 0", "room 0");
        full.refused("room 0", Check.FULL).feeds(" ".repeat(108)).refused("feed 0 2", Check.FULL);
        Story late = edges.late(9999, 0, 0).does("sheet 0 8 1", "image").feeds("just");
        String[] state = {"hours 1", "ahead 1 0", "cold 0", "spent 0", "rest", "circle", "spread 0 1", "kindFor 0 1",
            "tempted 1", "missed 1", "warmest 1", "exchange 1", "deal 1", "orders 2 1", "coal 0 1", "wall 0 1", "turn 0 1",
            "damper 0 1", "own 1", "judge 0 0"};
        for (String call : state) {
            late.refused(call, Check.STATE);
        }
        edges.house().refused("travel 1", Check.STATE).refused("undo", Check.NONE);
    }

    private void findingsInOrder() {
        edges.terms("Each act tells its findings in the order in which they are asked (that of its words)");
        edges.house(0, 0, 0, 0, 0, 0, 0, 0).due("room 7", Check.BEYOND).due("room 6", Check.FULL);
        edges.house().due("as 10 0", Check.BEYOND).due("as 0 7", Check.BEYOND).due("as 0 6", Check.MISSING);
        edges.late(9990).due("missed 61", Check.BEYOND).due("missed 10", Check.STATE).due("missed 9", Check.NONE);
    }

    private void quotientsAreCut() {
        edges.terms("Quotients are cut.");
        Story s = edges.house(0).does("change 0 3 20");
        int[][] warmths = {{39, 39}, {40, 39}, {59, 58}, {60, 58}};
        for (int[] beforeAndBehind : warmths) {
            s.does("change 0 1 " + beforeAndBehind[0]).due("ahead 1 4", beforeAndBehind[1]);
        }
    }

    private void setsAreBits() {
        edges.terms("Sets are told as bits");
        Story s = edges.house(0, 0, 0, 0, 0, 0, 0, 0).due("now 1", 0);
        s.does("change 0 1 0").due("now 1", 1).does("change 7 1 0").due("now 1", 129);
        s.all(1, 0, 0, 0, 0, 0, 0, 0, 0).due("now 1", 255);
    }

    private void leastNumberCounts() {
        edges.terms("of several that would do the least number counts, where nothing else is told.");
        Story s = edges.house(0, 0, 0).all(1, 70, 50, 50).all(4, 7, 7, 7);
        s.due("now 5", 1).due("kindFor 2 1", 0).due("damper 2 1", 0).due("turn 0 1", 1).due("missed 1", 0);
        edges.house(0, 0).due("surely 2", Check.NONE).does("change 0 7 0").due("surely 2", 0);
    }

    private void eightRooms() {
        edges.terms("ROOMS 0, 1, .. (at most 8)");
        Story s = edges.house();
        for (int room = 0; room < 8; room++) {
            s.due("of " + room + " 0", Check.BEYOND).due("room 0", room).due("of " + room + " 0", 0);
        }
        s.refused("room 0", Check.FULL).due("of 8 0", Check.BEYOND).due("count 1", 8);
    }

    private void kindsUnderKinds() {
        edges.terms("0 EVEN; 1 KINDLY, 2 JUST, 5 SLOW under EVEN; 3 MISER under JUST; 4 SAINTLY under KINDLY; "
            + "6 SPITEFUL under JUST");
        String[] under = {"0", "1 0", "2 0", "3 2 0", "4 1 0", "5 0", "6 2 0"};
        for (int kind = 0; kind < 7; kind++) {
            Story s = edges.house(kind).does("hold 0 0");
            for (int as = 0; as < 7; as++) {
                s.due("as 0 " + as, under[kind].contains(String.valueOf(as)) ? 0 : Check.KIND);
            }
        }
    }

    private void atFirst() {
        String[] words = {"WARMTH (0 to 300; 100 at first)", "COAL (0 to 999; 50 at first)", "WALL (1 to 20; 10 at first)",
            "the next number at first, 0 behind 7)", "AWAY or not (at first)",
            "DAMPER (0 to 3: so many shovels go to waste; 0 at first)",
            "GOT (shovels by which it was heated in the last HOUR; 1 at first)",
            "GAVE (shovels it stoked then; 1 at first)"};
        int[] due = {100, 50, 10, -1, 0, 0, 1, 1};
        for (int i = 0; i < words.length; i++) {
            edges.terms(words[i]);
            Story s = edges.house(0, 1, 2, 3, 4, 5, 6, 0);
            for (int room = 0; room < 8; room++) {
                int next = room < 7 ? room + 1 : 0;
                s.due("of " + room + " " + (i + 1), due[i] < 0 ? next : due[i]);
            }
        }
    }

    private void heatsThereOrNot() {
        edges.terms("HEATS (the ROOM that its stove heats: 0 to 7, there or not, not itself;");
        Story s = edges.house(0).due("hours 1", 1).due("of 0 7", 0).due("of 0 4", 1);
        s.refused("change 0 4 0", Check.BEYOND).due("change 0 4 7", 1).due("hours 1", 1).due("of 0 7", 0);
        // A stove that heated nobody heats the ROOM that comes there.
        s.does("change 0 4 1", "room 0", "hours 1").due("of 1 7", 1).due("heaters 1", 1);
    }

    private void damperWastes() {
        edges.terms("so many shovels go to waste");
        int[] got = {3, 2, 1, 0};
        for (int damper = 0; damper < 4; damper++) {
            Story s = edges.house(Check.SAINTLY, 0).does("change 0 1 120", "change 0 6 " + damper);
            s.due("hours 1", 4).due("of 0 8", 3).due("of 0 2", 47).due("of 1 7", got[damper]);
        }
    }

    private void out() {
        edges.terms("OUT (0 to 100; 20 at first).");
        edges.house().due("now 4", 20).due("out 0", 20).due("out 100", 0).beyond("out #", 0, 100).due("now 4", 100);
    }

    private void wants() {
        edges.terms("EVEN: 1.");
        dueWants(Check.EVEN, 1, new int[] {0, 119, 120, 300}, 1, 1, 1, 1);
        dueWants(Check.EVEN, 7, new int[] {0, 1, 2, 24}, 1, 1, 1, 1);
        edges.terms("KINDLY: 2 if WARMTH is 120 or more, else as an EVEN one.");
        dueWants(Check.KINDLY, 1, new int[] {0, 119, 120, 300}, 1, 1, 2, 2);
        edges.terms("SAINTLY: as a KINDLY one, and 1.");
        dueWants(Check.SAINTLY, 1, new int[] {0, 119, 120, 300}, 2, 2, 3, 3);
        edges.terms("JUST: GOT, 3 at most.");
        dueWants(Check.JUST, 7, new int[] {0, 1, 2, 3, 4, 24}, 0, 1, 2, 3, 3, 3);
        edges.terms("MISER: half of what a JUST one does (cut).");
        dueWants(Check.MISER, 7, new int[] {0, 1, 2, 3, 4, 24}, 0, 0, 1, 1, 1, 1);
        edges.terms("SPITEFUL: 0 if GOT is below 2, else as a JUST one.");
        dueWants(Check.SPITEFUL, 7, new int[] {0, 1, 2, 3, 4, 24}, 0, 0, 2, 3, 3, 3);
    }

    private void dueWants(int kind, int what, int[] numbers, int... wants) {
        Story s = edges.house(kind);
        for (int i = 0; i < numbers.length; i++) {
            s.does("change 0 " + what + " " + numbers[i]).due("of 0 9", wants[i]);
        }
    }

    private void slowWants() {
        edges.terms("SLOW: as an EVEN one, but GAVE, if HOUR is odd.");
        for (int hour : new int[] {0, 1, 2, 9998, 9999}) {
            Story s = edges.late(hour, Check.SLOW);
            for (int gave = 0; gave < 4; gave++) {
                s.does("change 0 8 " + gave).due("of 0 9", hour % 2 == 0 ? 1 : gave);
            }
        }
    }

    private void stokes() {
        edges.terms("STOKES: what it WANTS, COAL at most; 0 if AWAY.");
        int[] coal = {0, 1, 2, 3, 999};
        int[] stoked = {0, 1, 2, 3, 3};
        for (int i = 0; i < coal.length; i++) {
            Story s = edges.house(Check.JUST).does("change 0 7 3", "change 0 2 " + coal[i]);
            s.due("of 0 9", 3).due("hours 1", stoked[i]).due("of 0 8", stoked[i]).due("of 0 2", coal[i] - stoked[i]);
        }
        Story away = edges.house(Check.SAINTLY).does("change 0 5 1").due("of 0 9", 2).due("hours 1", 0);
        away.due("of 0 8", 0).due("of 0 2", 50);
        // By the HOUR ahead of which it stokes: 0, 1, 2.
        edges.house(Check.SLOW).does("change 0 8 3").due("hours 1", 1).does("change 0 8 3").due("hours 1", 3)
            .does("change 0 8 3").due("hours 1", 1);
    }

    private void hourAtFirstAndLast() {
        edges.terms("HOUR is 0 at first (9999 at most).");
        edges.house().due("now 0", 0).due("count 0", 0);
        edges.late(9999).due("now 0", 9999).due("count 0", 9999).refused("hours 1", Check.STATE).due("now 0", 9999);
    }

    private void allAtOnce() {
        edges.terms("AN HOUR: all at once: (a) each STOKES: COAL is less by that, GAVE is that.");
        // What a JUST one gets now it hands on in the next HOUR alone, whichever number has the one who heats it.
        Story up = edges.house(Check.JUST, Check.JUST, Check.JUST).all(4, 1, 2, 0).all(7, 3, 0, 0);
        up.due("hours 1", 3).due("of 0 8", 3).due("of 1 8", 0).due("of 2 8", 0).due("of 0 2", 47).due("of 1 2", 50);
        up.due("hours 1", 3).due("of 0 8", 0).due("of 1 8", 3).due("of 2 8", 0).due("of 0 2", 47).due("of 1 2", 47);
        Story down = edges.house(Check.JUST, Check.JUST, Check.JUST).all(4, 2, 0, 1).all(7, 0, 0, 3);
        down.due("hours 1", 3).due("of 0 8", 0).due("of 1 8", 0).due("of 2 8", 3).due("of 2 2", 47);
        // Its WARMTH ahead of the HOUR tells how much a KINDLY one stokes.
        Story warmed = edges.house(0, Check.KINDLY).does("change 1 1 119", "change 1 4 0").due("hours 1", 2);
        warmed.due("of 1 8", 1).due("of 1 1", 123).due("hours 1", 3).due("of 1 8", 2);
    }

    private void gets() {
        edges.terms("(b) each GETS from those whose HEATS it is: of each what it STOKES less its DAMPER (0 at least), together: "
            + "GOT is that");
        // 3 of one, 0 of the next (1 less 3, not -2), 2 of the third, none of the fourth.
        Story s = edges.house(Check.SAINTLY, 0, Check.SAINTLY, 0, 0).all(4, 4, 4, 4, 0, 0).all(1, 120, 100, 120, 100, 100);
        s.all(6, 0, 3, 1, 0, 0).due("hours 1", 9).due("of 4 7", 5).due("of 0 7", 2).due("of 1 7", 0).due("of 2 7", 0);
        Story most = edges.house(4, 4, 4, 4, 4, 4, 4, 4).all(4, 7, 7, 7, 7, 7, 7, 7, 0);
        most.all(1, 120, 120, 120, 120, 120, 120, 120, 120).due("hours 1", 24).due("of 7 7", 21).due("of 0 7", 3);
    }

    private void warmthAtMost() {
        edges.terms("WARMTH is 15 times that more (300 at most).");
        Story s = edges.house(0, 0).does("change 1 3 20", "change 1 1 30").due("ahead 1 5", 44);
        s.does("out 100", "change 1 3 3");
        // 299 less 66, 300 less 66: it is 300 that is held, not 299.
        s.does("change 1 1 284").due("ahead 1 5", 233).does("change 1 1 285").due("ahead 1 5", 234);
        // 301 would lose 10, and 291 be left.
        s.does("change 1 3 20", "change 1 1 286").due("ahead 1 5", 290).does("change 1 1 300").due("ahead 1 5", 290);
        Story flood = edges.house(4, 4, 4, 4, 4, 4, 4, 4).all(4, 7, 7, 7, 7, 7, 7, 7, 0);
        flood.all(1, 120, 120, 120, 120, 120, 120, 120, 120).does("out 100", "change 7 3 20").due("ahead 1 11", 290);
    }

    private void loses() {
        edges.terms("(c) each loses (WARMTH less OUT) by WALL (nothing, if OUT isn't below WARMTH).");
        Story s = edges.house(0).does("out 60", "change 0 3 1");
        int[][] warmths = {{0, 0}, {59, 59}, {60, 60}, {61, 60}, {300, 60}};
        for (int[] beforeAndBehind : warmths) {
            s.does("change 0 1 " + beforeAndBehind[0]).due("ahead 1 4", beforeAndBehind[1]);
        }
        // What comes in an HOUR is lost from, too: 55 and 15, less 10 by 5.
        edges.house(0, 0).does("out 60", "change 1 1 55", "change 1 3 5").due("ahead 1 5", 68);
    }

    private void hourIsOneMore() {
        edges.terms("HOUR is one more.");
        edges.house(0).due("hours 1", 1).due("now 0", 1).due("hours 1", 1).due("now 0", 2);
    }

    private void stateOfStoking() {
        edges.terms("STATE OF STOKING: GOT and GAVE of all, and the rest of HOUR by 2.");
        // All is alike each HOUR, but HOUR itself is not: the least p is 2.
        edges.house(0, 0).due("circle", 2);
        edges.late(1, 0, 0).due("circle", 2);
        // WARMTH and COAL go on changing and don't belong to it.
        edges.house(0, 0).all(2, 999, 999).all(3, 20, 20).due("circle", 2);
        // GAVE alone: no one gets what the last ROOM stokes for the last time in the 25th HOUR.
        edges.house(0, 0, 0).all(2, 0, 0, 25).due("circle", Check.NONE);
    }

    private void rest() {
        edges.terms("A REST: an HOUR behind which GAVE of each is what it was ahead of it.");
        edges.house(0, 0).due("rest", 1).does("change 1 8 0").due("rest", 2).does("change 1 8 1", "change 0 8 2")
            .due("rest", 2);
        // GOT may change in a REST.
        edges.house(0, 0).all(7, 24, 24).due("rest", 1);
    }

    private void coldBelow60() {
        edges.terms("COLD: WARMTH below 60.");
        edges.house(0, 0, 0).all(1, 59, 60, 61).all(4, 7, 7, 7).due("now 1", 1).due("cold 0", 0).due("cold 1", 1)
            .due("cold 2", 1).does("out 59").due("cold 1", Check.NONE);
    }

    private void aheadChangesNothing() {
        edges.terms("AHEAD: n HOURS go on with all as it is; nothing changes.");
        Story s = rich();
        String[] calls = {"ahead 100 0", "cold 0", "spent 1", "rest", "circle", "spread 0 60", "kindFor 2 60", "tempted 60",
            "missed 60", "warmest 24", "deal 24", "orders 3 24", "coal 0 60", "wall 1 60", "turn 2 60", "damper 1 60",
            "own 60", "judge 0 0"};
        for (String call : calls) {
            s.asks(call);
        }
    }

    private void draws() {
        edges.terms("DRAWS: z is told (1 at first); each makes it z * 1103515245 + 12345 (an int), and gives z >>> 8.");
        edges.house(0).due("count 6", 1).does("travel 1").due("count 6", 1103527590);
        // 1103527590 * 1103515245 is far beyond an int: 2524885223 is left of it and 12345, told with its sign.
        edges.house(0).does("travel 2").due("count 6", (int) 2524885223L);
        // The highest 24 bits are no sign: -1 becomes -1103502900, 12466657 is drawn, and by 3 that leaves 1.
        edges.house(0, 0, 0).does("seed -1").due("travel 1", 2).due("count 6", -1103502900);
    }

    private void spots() {
        edges.terms("SPOTS 0 to 9 hold the one of a ROOM or nothing (at first).");
        Story s = edges.house(0, 0);
        for (int spot = 0; spot < 10; spot++) {
            s.due("as " + spot + " 0", Check.MISSING).due("hold " + spot + " " + spot % 2, 1);
            s.due("as " + spot + " 0", spot % 2).due("count 7", spot + 1);
        }
        s.beyond("hold # 0", 0, 9).beyond("as # 0", 0, 9);
    }

    private void sheets() {
        edges.terms("SHEETS 0 to 3: rows of at most 40 numbers of 8, 16 or 32 bits");
        Story s = edges.house(0);
        for (int sheet = 0; sheet < 4; sheet++) {
            s.due("load " + sheet, Check.MISSING).due("sheet " + sheet + " 8 40", 40).due("load " + sheet, 1);
        }
        s.beyond("sheet # 8 1", 0, 3).beyond("load #", 0, 3);
    }

    private void signs() {
        edges.terms("(told with their sign: of 8 bits 255 is -1)");
        // A number below 0 is no COAL; 7 is what was there ahead of it.
        dueNumber(8, 127, 127);
        dueNumber(8, 128, 7);
        dueNumber(8, 255, 7);
        dueNumber(8, 256, 0);
        dueNumber(8, 383, 127);
        dueNumber(16, 999, 999);
        dueNumber(16, 32768, 7);
        dueNumber(16, 65535, 7);
        dueNumber(16, 65536, 0);
        dueNumber(16, 66535, 999);
        dueNumber(32, 999, 999);
        dueNumber(32, 65536, 7);
        dueNumber(32, -1, 7);
        // 200 and 8 bits are -56, which no ROOM's WARMTH is.
        Story s = edges.house(0).does("out 100", "change 0 3 20", "change 0 1 210");
        s.due("ahead 1 4", 205).does("sheet 0 8 1", "write 0 0 205").due("judge 0 0", 1);
        s.does("sheet 0 16 1", "write 0 0 205").due("judge 0 0", 0);
    }

    private void dueNumber(int bits, int written, int due) {
        Story s = edges.house(0).does("change 0 2 7", "sheet 3 " + bits + " 1");
        s.due("write 3 0 " + written, 1).does("load 3").due("of 0 2", due);
    }
}
