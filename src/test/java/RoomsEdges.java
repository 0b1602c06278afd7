/** Promises 1 to 8: a new object, room, of, change, out, heaters, reach, move. */
final class RoomsEdges {
    private final Edges edges;

    RoomsEdges(Edges edges) {
        this.edges = edges;
    }

    void all() {
        aNewObject();
        calls512();
        room();
        roomBeyond();
        roomFull();
        of();
        ofBeyond();
        change();
        changeHeats();
        changeBeyond();
        out();
        heaters();
        heatersBeyond();
        reach();
        reachBeyond();
        move();
        moveBeyond();
    }

    private void aNewObject() {
        edges.promise(1, "All as at first; no ROOMS; THE TAPE is empty, no image is kept.");
        Story s = edges.house();
        int[] counts = {0, 0, 0, 0, 0, 0, 1, 0};
        for (int what = 0; what < 8; what++) {
            s.due("count " + what, counts[what]);
        }
        int[] now = {0, 0, 0, 0, 20, -1};
        for (int what = 0; what < 6; what++) {
            s.due("now " + what, now[what]);
        }
        for (int which = -1; which < 7; which++) {
            s.due("status " + which, 0);
        }
        edges.house().due("of 0 0", Check.BEYOND);
        edges.house().due("wipe", 0);
        edges.house().due("text", -1);
        edges.house().due("undo", Check.NONE);
        edges.house().due("tear", 0);
        for (int i = 0; i < 10; i++) {
            edges.house().due("as " + i + " 0", Check.MISSING);
            edges.house().due("load " + i, i < 4 ? Check.MISSING : Check.BEYOND);
        }
    }

    /** An object is used for at most 512 calls: the last of them is answered as the first. */
    private void calls512() {
        edges.promise(1, "All as at first;");
        WarmWalls x = new WarmWalls();
        for (int i = 0; i < 511; i++) {
            edges.check.due("feed, call " + i, x.feed(0x20202020, 4), i < 30 ? 4 * (i + 1) : Check.FULL);
        }
        edges.check.due("the 512th call", x.status(1), 481);
    }

    private void room() {
        edges.promise(2, "A new ROOM: its number.");
        int[] kinds = {0, 6, 1, 5, 2, 4, 3, 0};
        Story s = edges.house();
        for (int room = 0; room < 8; room++) {
            s.due("room " + kinds[room], room).due("of " + room + " 0", kinds[room]).due("count 1", room + 1);
        }
        // The others stay as they are.
        Story t = edges.house(0).does("change 0 1 7", "change 0 4 3", "out 5").due("room 6", 1).due("of 0 1", 7);
        t.due("of 0 4", 3).due("now 4", 5);
    }

    private void roomBeyond() {
        edges.promise(2, "BEYOND.");
        edges.house().beyond("room #", 0, 6).due("count 1", 0);
        edges.house(0, 0, 0, 0, 0, 0, 0).beyond("room #", 0, 6).due("room 0", 7).beyond("room #", 0, 6);
    }

    private void roomFull() {
        edges.promise(2, "FULL.");
        Story s = edges.house(0, 0, 0, 0, 0, 0, 0).due("room 6", 7);
        for (int kind = 0; kind < 7; kind++) {
            s.refused("room " + kind, Check.FULL);
        }
        s.due("count 1", 8).due("status 1", 7);
    }

    private void of() {
        edges.promise(3, "Of a ROOM: what 0 KIND, 1 WARMTH, 2 COAL, 3 WALL, 4 HEATS, 5 AWAY (1, 0), 6 DAMPER, 7 GOT, 8 GAVE, "
            + "9 WANTS now.");
        Story s = edges.house(0, 0, 0, 0, 0, 0, 0, Check.SPITEFUL);
        int[] least = {0, 0, 0, 1, 0, 0, 0, 0, 0, 1};
        int[] most = {6, 300, 999, 20, 6, 1, 3, 24, 3, 3};
        int[] first = {6, 100, 50, 10, 0, 0, 0, 1, 1, 0};
        for (int what = 0; what < 10; what++) {
            s.due("of 7 " + what, first[what]);
        }
        for (int what = 0; what < 9; what++) {
            s.does("change 7 " + what + " " + most[what], "change 0 " + what + " " + (what == 4 ? 7 : least[what]));
        }
        for (int what = 0; what < 10; what++) {
            s.due("of 7 " + what, most[what]).due("of 0 " + what, what == 4 ? 7 : least[what]);
        }
        // WANTS now: no COAL and being AWAY don't matter.
        s.does("change 7 2 0").due("of 7 9", 3);
    }

    private void ofBeyond() {
        edges.promise(3, "BEYOND.");
        edges.house().refused("of 0 0", Check.BEYOND).refused("of 0 9", Check.BEYOND);
        edges.house(0).beyond("of # 0", 0, 0).beyond("of 0 #", 0, 9);
        edges.house(0, 0, 0, 0, 0, 0, 0, 0).beyond("of # 9", 0, 7).beyond("of 7 #", 0, 9).refused("of 8 10", Check.BEYOND);
    }

    private void change() {
        String[] words = {"KIND (what 0)", "WARMTH (1)", "COAL (2)", "WALL (3)", "HEATS (4; 0 to 7, not its own)",
            "AWAY (5; 0, 1)", "DAMPER (6)", "GOT (7; 0 to 24)", "GAVE (8; 0 to 3) of a ROOM becomes v: what it was."};
        int[] least = {0, 0, 0, 1, 0, 0, 0, 0, 0};
        int[] most = {6, 300, 999, 20, 7, 1, 3, 24, 3};
        int[] was = {2, 100, 50, 10, 4, 0, 0, 1, 1};
        for (int what = 0; what < 9; what++) {
            edges.promise(4, words[what]);
            Story s = edges.house(2, 2, 2, 2, 2, 2, 2, 2);
            String call = "change 3 " + what + " ";
            s.due(call + least[what], was[what]).due("of 3 " + what, least[what]);
            s.due(call + most[what], least[what]).due("of 3 " + what, most[what]);
            s.beyond(call + "#", least[what], most[what]).due("of 3 " + what, most[what]);
            s.due(call + most[what], most[what]).due(call + least[what], most[what]);
            s.due("of 2 " + what, what == 4 ? 3 : was[what]).due("of 4 " + what, what == 4 ? 5 : was[what]);
            edges.house(2).refused("change 1 " + what + " " + least[what], Check.BEYOND);
        }
    }

    private void changeHeats() {
        edges.promise(4, "HEATS (4; 0 to 7, not its own)");
        for (int room = 0; room < 8; room++) {
            Story s = edges.house(0, 0, 0, 0, 0, 0, 0, 0);
            s.refused("change " + room + " 4 " + room, Check.BEYOND);
            int was = room == 7 ? 0 : room + 1;
            for (int heats = 0; heats < 8; heats++) {
                if (heats != room) {
                    s.due("change " + room + " 4 " + heats, was).due("of " + room + " 4", heats);
                    was = heats;
                }
            }
        }
        // There or not.
        edges.house(0).due("change 0 4 7", 1).due("change 0 4 1", 7);
    }

    private void changeBeyond() {
        edges.promise(4, "BEYOND.");
        edges.house().refused("change 0 1 100", Check.BEYOND).refused("change 0 9 0", Check.BEYOND);
        edges.house(0).beyond("change # 1 100", 0, 0).beyond("change 0 # 1", 0, 8);
        edges.house(0, 0, 0, 0, 0, 0, 0, 0).beyond("change # 2 0", 0, 7).beyond("change 7 # 1", 0, 8)
            .due("status 0", 8);
    }

    private void out() {
        edges.promise(5, "OUT becomes v: what it was.");
        edges.house().due("out 0", 20).due("now 4", 0).due("out 100", 0).due("now 4", 100).due("out 100", 100)
            .due("out 99", 100).due("out 1", 99).due("now 4", 1);
        edges.promise(5, "BEYOND.");
        edges.house().beyond("out #", 0, 100).due("now 4", 20).does("out 100").beyond("out #", 0, 100).due("now 4", 100);
    }

    private void heaters() {
        edges.promise(6, "ROOMS whose stove heats a ROOM, as a set.");
        edges.house(0).due("heaters 0", 0);
        Story s = edges.house(0, 0, 0, 0, 0, 0, 0, 0).due("heaters 0", 128).due("heaters 7", 64).due("heaters 1", 1);
        s.all(4, 7, 7, 7, 7, 7, 7, 7, 0).due("heaters 7", 127).due("heaters 0", 128).due("heaters 3", 0);
        s.all(4, 1, 0, 0, 0, 0, 0, 0, 0).due("heaters 0", 254).due("heaters 1", 1).due("heaters 7", 0);
        // Those who are AWAY or have no COAL have a stove all the same.
        edges.house(0, 0).does("change 0 5 1", "change 0 2 0", "change 0 6 3").due("heaters 1", 1);
    }

    private void heatersBeyond() {
        edges.promise(6, "BEYOND.");
        edges.house().refused("heaters 0", Check.BEYOND);
        // ROOM 0 heats 1, but that is not there.
        edges.house(0).beyond("heaters #", 0, 0);
        edges.house(0, 0, 0, 0, 0, 0, 0, 0).beyond("heaters #", 0, 7);
    }

    private void reach() {
        edges.promise(7, "ROOMS that warmth from a ROOM's stove reaches, one by the other's HEATS, as a set (itself, if it comes "
            + "back).");
        edges.house(0).due("reach 0", 0).does("change 0 4 7").due("reach 0", 0);
        edges.house(0, 0).due("reach 0", 2).due("reach 1", 0).does("change 1 4 0").due("reach 0", 3).due("reach 1", 3);
        Story ring = edges.house(0, 0, 0, 0, 0, 0, 0, 0);
        for (int room = 0; room < 8; room++) {
            ring.due("reach " + room, 255);
        }
        // It reaches them, even if it is as cold inside, no one is there and no COAL is left.
        ring.does("out 0", "change 3 2 0", "change 3 5 1", "change 3 6 3", "change 4 1 0").due("reach 0", 255);
        // It goes round behind ROOM 0 and doesn't come back to it.
        ring.does("change 7 4 1").due("reach 0", 254).due("reach 1", 254).due("reach 7", 254);
        ring.does("change 7 4 6").due("reach 0", 254).due("reach 6", 192).due("reach 7", 192);
        Story row = edges.house(0, 0, 0, 0, 0, 0, 0);
        for (int room = 0; room < 7; room++) {
            row.due("reach " + room, 127 >> room + 1 << room + 1);
        }
    }

    private void reachBeyond() {
        edges.promise(7, "BEYOND.");
        edges.house().refused("reach 0", Check.BEYOND);
        edges.house(0).beyond("reach #", 0, 0);
        edges.house(0, 0, 0, 0, 0, 0, 0, 0).beyond("reach #", 0, 7);
    }

    private void move() {
        edges.promise(8, "Those who live in two ROOMS change: KIND, AWAY, GAVE go with them: 1.");
        Story s = edges.house(Check.MISER, 0, 0, 0, 0, 0, 0, Check.SAINTLY);
        int[] mine = {3, 90, 40, 9, 5, 1, 2, 6, 3};
        int[] yours = {4, 110, 60, 11, 6, 0, 1, 7, 0};
        for (int what = 1; what < 9; what++) {
            s.does("change 0 " + what + " " + mine[what], "change 7 " + what + " " + yours[what]);
        }
        s.due("move 7 0", 1);
        for (int what = 0; what < 9; what++) {
            boolean goes = what == 0 || what == 5 || what == 8;
            s.due("of 0 " + what, goes ? yours[what] : mine[what]).due("of 7 " + what, goes ? mine[what] : yours[what]);
        }
        s.due("move 0 7", 1).due("of 0 0", 3).due("of 0 5", 1).due("of 0 8", 3).due("of 7 0", 4);
        edges.house(Check.SLOW).does("change 0 5 1", "change 0 8 2").due("move 0 0", 1).due("of 0 0", 5).due("of 0 5", 1)
            .due("of 0 8", 2);
    }

    private void moveBeyond() {
        edges.promise(8, "BEYOND.");
        edges.house().refused("move 0 0", Check.BEYOND).refused("move 0 1", Check.BEYOND);
        edges.house(1).beyond("move # 0", 0, 0).beyond("move 0 #", 0, 0).refused("move 1 1", Check.BEYOND);
        edges.house(0, 1, 2, 3, 4, 5, 6, 0).beyond("move # 7", 0, 7).beyond("move 7 #", 0, 7);
    }
}
