/** Promises 24 to 28: coal, wall, turn, damper, own. */
final class StovesEdges {
    private static final int[] EIGHT_EVEN = {0, 0, 0, 0, 0, 0, 0, 0};

    private final Edges edges;

    StovesEdges(Edges edges) {
        this.edges = edges;
    }

    void all() {
        coal();
        coalRefused();
        coalNone();
        wall();
        wallRefused();
        wallNone();
        turn();
        turnRefused();
        damper();
        damperRefused();
        own();
        ownRefused();
    }

    private void coal() {
        edges.promise(24, "The least COAL (0 to 999) that a ROOM must have so that the one it heats isn't COLD behind n HOURS (1 to "
            + "60) AHEAD.");
        Story s = edges.house(Check.SAINTLY, 0).all(4, 1, 0).does("change 0 1 120");
        // ROOM 1 behind 1 HOUR with 0 to 3 shovels: 60, ..; 59, 73, ..; 44, 57, 71, ..; 30, 44, 57, 71.
        int[][] warmths = {{64, 0}, {63, 1}, {46, 2}, {31, 3}};
        for (int[] warmthAndCoal : warmths) {
            s.does("change 1 1 " + warmthAndCoal[0]).due("coal 0 1", warmthAndCoal[1]);
        }
        // It is the ROOM that it heats that counts, not the next one nor its own.
        edges.house(Check.SAINTLY, 0, 0).all(4, 2, 0, 0).all(1, 0, 0, 46).due("coal 0 1", 2);
        // What it has is not asked.
        s.does("change 0 2 0").due("coal 0 1", 3).does("change 0 2 999").due("coal 0 1", 3);
        // A thin wall: only with 3 shovels in each HOUR, the 60th too, ROOM 1 is at 65, else below 60.
        Story far = edges.house(Check.SAINTLY, 0).all(4, 1, 0).all(1, 300, 100).all(3, 20, 2).does("change 1 2 999");
        far.due("coal 0 60", 180).due("coal 0 59", 177);
        edges.house(EIGHT_EVEN).does("out 60").due("coal 7 60", 0).due("coal 0 1", 0);
    }

    private void coalRefused() {
        edges.promise(24, "BEYOND.");
        edges.house().refused("coal 0 1", Check.BEYOND);
        edges.house(0, 0).beyond("coal # 1", 0, 1).beyond("coal 0 #", 1, 60).refused("coal 1 61", Check.BEYOND);
        edges.house(EIGHT_EVEN).beyond("coal # 60", 0, 7).beyond("coal 7 #", 1, 60);
        edges.promise(24, "STATE: HOUR, or it heats none that there is.");
        edges.late(9939, 0, 0).does("out 60").due("coal 0 60", 0).does("hours 1").refused("coal 0 60", Check.STATE)
            .due("coal 0 59", 0).refused("coal 2 60", Check.BEYOND).refused("coal 0 61", Check.BEYOND);
        edges.late(9999, 0, 0).refused("coal 0 1", Check.STATE).refused("coal 1 1", Check.STATE);
        edges.house(0).refused("coal 0 1", Check.STATE).does("change 0 4 7").refused("coal 0 60", Check.STATE);
        edges.house(0, 0).refused("coal 1 1", Check.STATE).does("room 0").due("coal 1 1", 0);
    }

    private void coalNone() {
        edges.promise(24, "NONE.");
        // 29 and 45, less 5: 69 with all 3 shovels of the next HOUR; from 14 it would be 59 - 3.
        edges.house(Check.SAINTLY, 0).all(4, 1, 0).all(1, 120, 14).refused("coal 0 1", Check.NONE).does("change 1 1 19")
            .due("coal 0 1", 3).does("change 1 1 18").refused("coal 0 1", Check.NONE);
        edges.house(0, 0).does("change 0 5 1", "change 1 1 0").refused("coal 0 60", Check.NONE);
        edges.late(9998, 0, 0).does("change 1 1 0").refused("coal 0 1", Check.NONE).refused("coal 0 2", Check.STATE);
    }

    private void wall() {
        edges.promise(25, "The least WALL (1 to 20) with which a ROOM isn't COLD behind n HOURS (1 to 60) AHEAD.");
        Story s = edges.house(0).does("change 0 1 60", "out 60").due("wall 0 1", 1).due("wall 0 60", 1);
        // 19 less than 60 outside: by 20 nothing is lost.
        s.does("out 41").due("wall 0 1", 20).does("change 0 3 1").due("wall 0 1", 20);
        // 59, 60: the first with 60 counts.
        s.does("out 59", "change 0 1 300").due("wall 0 60", 2);
        s.does("out 20", "change 0 1 100").due("wall 0 1", 2);
        // 79 loses 1 an HOUR: 60 behind 19.
        s.does("out 40", "change 0 1 79").due("wall 0 19", 20).due("wall 0 20", Check.NONE);
        edges.house(EIGHT_EVEN).does("out 60").due("wall 7 60", 1);
    }

    private void wallRefused() {
        edges.promise(25, "BEYOND.");
        edges.house().refused("wall 0 1", Check.BEYOND);
        edges.house(0).beyond("wall # 1", 0, 0).beyond("wall 0 #", 1, 60);
        edges.house(EIGHT_EVEN).beyond("wall # 60", 0, 7).beyond("wall 7 #", 1, 60);
        edges.promise(25, "STATE.");
        edges.late(9939, 0).does("out 60").due("wall 0 60", 1).does("hours 1").refused("wall 0 60", Check.STATE)
            .due("wall 0 59", 1).refused("wall 1 60", Check.BEYOND).refused("wall 0 61", Check.BEYOND);
        edges.late(9999, 0).refused("wall 0 1", Check.STATE);
    }

    private void wallNone() {
        edges.promise(25, "NONE.");
        edges.house(0).does("change 0 1 60", "out 40").refused("wall 0 1", Check.NONE).does("change 0 1 0", "out 59")
            .refused("wall 0 60", Check.NONE);
        edges.late(9998, 0).does("change 0 1 0").refused("wall 0 1", Check.NONE).refused("wall 0 2", Check.STATE);
    }

    private void turn() {
        edges.promise(26, "The ROOM that a ROOM's stove should heat (0 to 7, there is, not its own) for the greatest least WARMTH of "
            + "all behind n HOURS (1 to 60) AHEAD.");
        edges.house(0, 0).due("turn 0 1", 1).due("turn 1 1", 0).due("turn 0 60", 1).due("turn 1 60", 0);
        // One ROOM is colder than all others and has no other heater: it should be heated, if it isn't one's own.
        for (int coldest = 0; coldest < 8; coldest++) {
            Story s = edges.house(EIGHT_EVEN).all(2, 0, 0, 0, 0, 0, 0, 0, 0).does("change 3 2 50", "change 7 2 50");
            s.does("change " + coldest + " 1 30").due("turn 3 1", coldest == 3 ? 0 : coldest);
            s.due("turn 7 1", coldest == 7 ? 0 : coldest);
        }
        // The least of like ones, not its own.
        Story like = edges.house(EIGHT_EVEN).all(2, 0, 0, 0, 0, 0, 0, 0, 0);
        like.due("turn 0 1", 1).due("turn 1 60", 0).due("turn 7 1", 0);
        // ROOM 2 is not there, though to heat none would leave 36 to the coldest, and to heat ROOM 1 leaves it 32.
        edges.house(0, 1).all(1, 26, 120).all(2, 3, 4).all(3, 2, 17).all(4, 2, 0).due("ahead 3 3", 36).due("turn 0 3", 1)
            .does("change 0 4 1").due("ahead 3 3", 32).due("turn 0 3", 1);
    }

    private void turnRefused() {
        edges.promise(26, "BEYOND.");
        edges.house().refused("turn 0 1", Check.BEYOND);
        edges.house(0, 0).beyond("turn # 1", 0, 1).beyond("turn 0 #", 1, 60);
        edges.house(EIGHT_EVEN).beyond("turn # 60", 0, 7).beyond("turn 7 #", 1, 60);
        edges.promise(26, "STATE: HOUR, or there is one alone.");
        edges.late(9939, 0, 0).due("turn 0 60", 1).does("hours 1").refused("turn 0 60", Check.STATE).due("turn 0 59", 1)
            .refused("turn 2 60", Check.BEYOND).refused("turn 0 61", Check.BEYOND);
        edges.late(9999, 0, 0).refused("turn 0 1", Check.STATE);
        edges.house(0).refused("turn 0 1", Check.STATE).refused("turn 0 61", Check.BEYOND).refused("turn 1 1", Check.BEYOND)
            .does("room 0").due("turn 0 1", 1);
    }

    private void damper() {
        edges.promise(27, "The DAMPER (0 to 3) of a ROOM with which it has itself most WARMTH behind n HOURS (1 to 60) AHEAD.");
        // The ROOM's WARMTH by DAMPERS of 0 to 3: 29, 29, 29, 29 and 30, 29, 29, 29 behind 60 HOURS.
        edges.house(0).due("damper 0 1", 0).due("damper 0 60", 0).does("change 0 6 3").due("damper 0 60", 0);
        edges.house(2, 2).all(4, 1, 0).does("change 0 6 3").due("damper 0 60", 0);
        // 145, 146, 132, 132
        edges.house(4, 1).all(4, 1, 0).all(1, 107, 110).all(2, 5, 4).all(3, 15, 13).all(7, 3, 1).due("damper 0 3", 1);
        // 141, 141, 143, 130
        edges.house(4, 1).all(4, 1, 0).all(1, 115, 120).all(2, 5, 5).all(3, 8, 16).all(7, 3, 1).due("damper 0 3", 2);
        // 136, 136, 136, 137
        edges.house(6, 1).all(4, 1, 0).all(1, 111, 116).all(2, 999, 3).all(3, 17, 15).all(7, 3, 1).due("damper 0 3", 3);
        edges.house(EIGHT_EVEN).does("change 7 6 3").due("damper 7 1", 0).due("damper 7 60", 0);
    }

    private void damperRefused() {
        edges.promise(27, "BEYOND.");
        edges.house().refused("damper 0 1", Check.BEYOND);
        edges.house(0).beyond("damper # 1", 0, 0).beyond("damper 0 #", 1, 60);
        edges.house(EIGHT_EVEN).beyond("damper # 60", 0, 7).beyond("damper 7 #", 1, 60);
        edges.promise(27, "STATE.");
        edges.late(9939, 0).due("damper 0 60", 0).does("hours 1").refused("damper 0 60", Check.STATE).due("damper 0 59", 0)
            .refused("damper 1 60", Check.BEYOND).refused("damper 0 61", Check.BEYOND);
        edges.late(9999, 0).refused("damper 0 1", Check.STATE);
    }

    private void own() {
        edges.promise(28, "ROOMS that would be warmer behind n HOURS (1 to 60) AHEAD, if each stove heated its own ROOM, as a set.");
        edges.house().due("own 1", 0).due("own 60", 0);
        edges.house(0).due("own 1", 1).due("own 60", 1).does("change 0 5 1").due("own 1", 0);
        // All seven heat a ROOM that isn't there.
        edges.house(0, 0, 0, 0, 0, 0, 0).all(4, 7, 7, 7, 7, 7, 7, 7).due("own 1", 127).due("own 60", 127);
        // As warm is not warmer.
        edges.house(EIGHT_EVEN).due("own 1", 0).due("own 60", 0);
        edges.house(4, 4, 4, 4, 4, 4, 4, 4).all(4, 7, 7, 7, 7, 7, 7, 7, 0).due("own 1", 126);
    }

    private void ownRefused() {
        edges.promise(28, "BEYOND.");
        edges.house().beyond("own #", 1, 60);
        edges.house(EIGHT_EVEN).beyond("own #", 1, 60);
        edges.promise(28, "STATE.");
        edges.late(9939, 0).due("own 60", 1).does("hours 1").refused("own 60", Check.STATE).due("own 59", 1)
            .refused("own 61", Check.BEYOND);
        edges.late(9999).refused("own 1", Check.STATE);
    }
}
