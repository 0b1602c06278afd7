/** Promises 9 to 15: hours, now, ahead, cold, spent, rest, circle. */
final class HoursEdges {
    private final Edges edges;

    HoursEdges(Edges edges) {
        this.edges = edges;
    }

    void all() {
        hours();
        hoursBeyond();
        hoursState();
        now();
        nowBeyond();
        ahead();
        aheadBeyond();
        aheadState();
        cold();
        coldRefused();
        coldNone();
        spent();
        spentRefused();
        spentNone();
        rest();
        restState();
        restNone();
        circle();
        circleOfCoal();
        circleState();
        circleNone();
    }

    private void hours() {
        edges.promise(9, "n HOURS go (1 to 100): shovels stoked in them.");
        edges.house().due("hours 1", 0).due("now 0", 1).due("hours 100", 0).due("now 0", 101);
        Story s = edges.house(0, 0, 0, 0, 0, 0, 0, 0).due("hours 1", 8).due("count 2", 392).due("now 0", 1);
        s.due("hours 100", 392).due("count 2", 0).due("now 0", 101).due("hours 100", 0).due("now 0", 201);
        edges.house(0).does("change 0 2 999").due("hours 99", 99).due("now 0", 99).due("hours 100", 100).due("of 0 2", 800);
        // 100, 92, 85, 79: hour by hour, not all at once.
        edges.house(0).due("hours 2", 2).due("of 0 1", 85).due("hours 1", 1).due("of 0 1", 79);
    }

    private void hoursBeyond() {
        edges.promise(9, "BEYOND.");
        edges.house().beyond("hours #", 1, 100).due("now 0", 0);
        edges.house(0).beyond("hours #", 1, 100);
        edges.late(9999, 0).beyond("hours #", 1, 100);
    }

    private void hoursState() {
        edges.promise(9, "STATE: HOUR would be above 9999.");
        edges.late(9899, 0).due("hours 100", 50).due("now 0", 9999).refused("hours 1", Check.STATE);
        edges.late(9900, 0).refused("hours 100", Check.STATE).due("hours 99", 50).due("now 0", 9999);
        edges.late(9998).refused("hours 2", Check.STATE).due("hours 1", 0).refused("hours 1", Check.STATE).due("now 0", 9999);
    }

    private void now() {
        edges.promise(10, "What 0 HOUR, 1 COLD ROOMS, as a set, 2 COAL of all, 3 WARMTH of all, 4 OUT, 5 the coldest ROOM "
            + "(-1: none).");
        int[] none = {100, 0, 0, 0, 20, -1};
        Story empty = edges.house().does("hours 100");
        for (int what = 0; what < 6; what++) {
            empty.due("now " + what, none[what]);
        }
        Story s = edges.house(0, 0, 0, 0, 0, 0, 0, 0).does("out 0");
        s.all(1, 60, 59, 300, 60, 300, 300, 300, 59).all(2, 999, 999, 999, 999, 999, 999, 999, 0);
        int[] eight = {0, 130, 6993, 1438, 0, 1};
        for (int what = 0; what < 6; what++) {
            s.due("now " + what, eight[what]);
        }
        s.does("change 7 1 0").due("now 5", 7).due("now 1", 130).all(1, 0, 0, 0, 0, 0, 0, 0, 0).due("now 5", 0)
            .due("now 1", 255).due("now 3", 0);
        edges.late(9999).due("now 0", 9999);
    }

    private void nowBeyond() {
        edges.promise(10, "BEYOND.");
        edges.house().beyond("now #", 0, 5);
        edges.house(0, 0, 0, 0, 0, 0, 0, 0).beyond("now #", 0, 5);
    }

    private void ahead() {
        edges.promise(11, "AHEAD n HOURS (0 to 100): what 0 shovels stoked in them, 1 COLD ROOMS, as a set, 2 WARMTH of all, "
            + "3 the least WARMTH (300 without ROOMS), 4 + ROOM its WARMTH.");
        int[] none = {0, 0, 0, 300};
        Story empty = edges.house();
        for (int what = 0; what < 4; what++) {
            empty.due("ahead 0 " + what, none[what]).due("ahead 100 " + what, none[what]);
        }
        // 65, 61, 57: ROOM 0 is COLD behind 2 HOURS; the others stay at 100.
        Story s = edges.house(0, 0).all(1, 65, 100).all(2, 100, 99);
        int[] at0 = {0, 0, 165, 65, 65, 100};
        int[] at2 = {4, 1, 168, 57, 57, 111};
        for (int what = 0; what < 6; what++) {
            s.due("ahead 0 " + what, at0[what]).due("ahead 2 " + what, at2[what]);
        }
        s.due("ahead 100 0", 199).due("ahead 99 0", 198).due("ahead 1 0", 2);
        edges.house(0, 0, 0, 0, 0, 0, 0, 0).does("change 7 1 300").due("ahead 0 11", 300).due("ahead 0 4", 100)
            .due("ahead 1 11", 272);
        // As it goes, so it was told.
        edges.house(0, 3, 4).does("hours 1").due("ahead 3 2", 268).does("hours 3").due("now 3", 268);
    }

    private void aheadBeyond() {
        edges.promise(11, "BEYOND: no such ROOM, too.");
        edges.house().beyond("ahead # 0", 0, 100).beyond("ahead 0 #", 0, 3);
        edges.house(0).beyond("ahead # 4", 0, 100).beyond("ahead 100 #", 0, 4);
        edges.house(0, 0, 0, 0, 0, 0, 0, 0).beyond("ahead 1 #", 0, 11);
    }

    private void aheadState() {
        edges.promise(11, "STATE: HOUR would be above 9999.");
        edges.late(9899, 0).due("ahead 100 0", 50).does("hours 1").refused("ahead 100 0", Check.STATE).due("ahead 99 0", 49);
        edges.late(9999, 0).due("ahead 0 4", 100).refused("ahead 1 4", Check.STATE).refused("ahead 1 5", Check.BEYOND)
            .beyond("ahead # 0", 0, 100).beyond("ahead 1 #", 0, 4);
    }

    private void cold() {
        edges.promise(12, "Behind how many HOURS (0 to 100) AHEAD a ROOM is COLD first.");
        Story s = edges.house(0).does("change 0 1 59").due("cold 0", 0).does("change 0 1 60").due("cold 0", 1);
        s.does("change 0 1 0").due("cold 0", 0);
        // ROOM 1 cools off behind the last shovel: with 87 it is at 61 behind 99 HOURS and COLD behind 100.
        Story t = edges.house(0, 0).does("change 0 2 87").due("ahead 99 5", 61).due("ahead 100 5", 57).due("cold 1", 100);
        t.does("change 0 2 86").due("cold 1", 99);
        // It is COLD now, and warm behind the next HOUR: now is the first.
        edges.house(0, 0).does("change 1 1 59").due("ahead 1 5", 69).due("cold 1", 0);
    }

    private void coldRefused() {
        edges.promise(12, "BEYOND.");
        edges.house().refused("cold 0", Check.BEYOND);
        edges.house(0).beyond("cold #", 0, 0);
        edges.house(0, 0, 0, 0, 0, 0, 0, 0).beyond("cold #", 0, 7).due("cold 7", 63);
        edges.promise(12, "STATE: HOUR is above 9899.");
        edges.late(9899, 0).due("cold 0", 8).does("change 0 1 0").due("cold 0", 0).does("hours 1")
            .refused("cold 0", Check.STATE).refused("cold 1", Check.BEYOND).refused("cold -1", Check.BEYOND);
        edges.late(9999, 0).does("change 0 1 0").refused("cold 0", Check.STATE);
    }

    private void coldNone() {
        edges.promise(12, "NONE.");
        // One shovel more than enough for the 100th HOUR.
        edges.house(0, 0).does("change 0 2 88").due("ahead 100 5", 61).refused("cold 1", Check.NONE);
        edges.house(0).does("out 60", "change 0 1 60").refused("cold 0", Check.NONE);
        edges.late(9899, 0).does("out 100").refused("cold 0", Check.NONE).does("hours 1").refused("cold 0", Check.STATE);
    }

    private void spent() {
        edges.promise(13, "Behind how many HOURS (0 to 100) AHEAD it has COAL of 0 first.");
        Story s = edges.house(0).does("change 0 2 0").due("spent 0", 0).does("change 0 2 1").due("spent 0", 1);
        s.does("change 0 2 100").due("spent 0", 100).does("change 0 2 99").due("spent 0", 99);
        edges.house(Check.SAINTLY).does("change 0 2 3").due("spent 0", 2).does("change 0 2 4").due("spent 0", 2);
    }

    private void spentRefused() {
        edges.promise(13, "BEYOND.");
        edges.house().refused("spent 0", Check.BEYOND);
        edges.house(0).beyond("spent #", 0, 0);
        edges.house(0, 0, 0, 0, 0, 0, 0, 0).beyond("spent #", 0, 7).due("spent 7", 50);
        edges.promise(13, "STATE likewise.");
        edges.late(9899, 0).due("spent 0", 50).does("hours 1").refused("spent 0", Check.STATE)
            .refused("spent 1", Check.BEYOND).does("change 0 2 0").refused("spent 0", Check.STATE);
        edges.late(9999, 0).refused("spent 0", Check.STATE);
    }

    private void spentNone() {
        edges.promise(13, "NONE.");
        edges.house(0).does("change 0 2 101").refused("spent 0", Check.NONE);
        edges.house(0).does("change 0 2 1", "change 0 5 1").refused("spent 0", Check.NONE).does("change 0 2 0")
            .due("spent 0", 0);
        edges.late(9899, 0).does("change 0 2 999").refused("spent 0", Check.NONE).does("hours 1")
            .refused("spent 0", Check.STATE);
    }

    /**
     * Two JUST ones hand one shovel to and fro; with so much COAL together the HOUR that is told behind the last shovel
     * is the first REST: one HOUR ahead of it GAVE still changes, to nothing.
     */
    private Story toAndFro(int rest) {
        int coal = rest - 2;
        return edges.house(Check.JUST, Check.JUST).all(4, 1, 0).all(7, 1, 0).all(8, 0, 1)
            .all(2, (coal + 1) / 2, coal / 2);
    }

    private void rest() {
        edges.promise(14, "The first of the next 60 HOURS (1 to 60) that is a REST.");
        edges.house().due("rest", 1);
        edges.house(0, 0, 0, 0, 0, 0, 0, 0).due("rest", 1).does("change 7 8 0").due("rest", 2).does("change 7 5 1")
            .due("rest", 1);
        toAndFro(3).due("rest", 3);
        toAndFro(59).due("rest", 59);
        toAndFro(60).due("rest", 60);
        // The first, though GAVE changes again behind it.
        edges.house(0).does("change 0 2 1").due("rest", 1).does("hours 1").due("rest", 2);
    }

    private void restState() {
        edges.promise(14, "STATE: HOUR is above 9899.");
        edges.late(9899).due("rest", 1).does("hours 1").refused("rest", Check.STATE);
        edges.late(9999, 0).refused("rest", Check.STATE);
    }

    private void restNone() {
        edges.promise(14, "NONE.");
        toAndFro(61).refused("rest", Check.NONE);
        toAndFro(61).does("hours 1").due("rest", 60);
        edges.late(9899, 2, 2).all(4, 1, 0).all(7, 1, 0).all(8, 0, 1).all(2, 999, 999).refused("rest", Check.NONE)
            .does("hours 1").refused("rest", Check.STATE);
    }

    private Story ring(int rooms) {
        Story s = edges.house();
        for (int room = 0; room < rooms; room++) {
            s.does("room 2", "change " + room + " 4 " + (room + 1) % rooms, "change " + room + " 7 " + (room == 0 ? 1 : 0));
        }
        return s;
    }

    private void circle() {
        edges.promise(15, "The least p (1 to 12) such that the STATE OF STOKING behind 24 HOURS AHEAD and behind 24 + p is the "
            + "same.");
        edges.house().due("circle", 2);
        edges.house(0, 0, 0, 0, 0, 0, 0, 0).due("circle", 2);
        int[] goesRound = {2, 6, 4, 10, 6, Check.NONE, 8};
        for (int rooms = 2; rooms <= 8; rooms++) {
            ring(rooms).due("circle", goesRound[rooms - 2]);
        }
        // A ring of 3 and one of 4 are alike behind 12.
        ring(7).does("change 2 4 0", "change 6 4 3", "change 3 7 1").due("circle", 12);
    }

    private void circleOfCoal() {
        edges.promise(15, "behind 24 HOURS AHEAD and behind 24 + p is the same.");
        // The last shovel goes in the 23rd, 24th, 25th, 26th HOUR, and in one behind all that are looked at.
        int[] coal = {23, 24, 25, 26, 35, 36, 37, 999};
        int[] due = {2, Check.NONE, Check.NONE, 2, 2, 2, 2, 2};
        for (int i = 0; i < coal.length; i++) {
            edges.house(0).does("change 0 2 " + coal[i]).due("circle", due[i]);
        }
    }

    private void circleState() {
        edges.promise(15, "STATE likewise.");
        edges.late(9899).due("circle", 2).does("hours 1").refused("circle", Check.STATE);
        edges.late(9999, 0).refused("circle", Check.STATE);
    }

    private void circleNone() {
        edges.promise(15, "NONE.");
        ring(7).refused("circle", Check.NONE);
        edges.late(9899, 0).does("change 0 2 24").refused("circle", Check.NONE).does("hours 1")
            .refused("circle", Check.STATE);
    }
}
