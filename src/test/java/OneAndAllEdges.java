/** Promises 16 to 23: spread, kindFor, tempted, missed, warmest, exchange, deal, orders. */
final class OneAndAllEdges {
    private static final int[] EIGHT_EVEN = {0, 0, 0, 0, 0, 0, 0, 0};

    private final Edges edges;

    OneAndAllEdges(Edges edges) {
        this.edges = edges;
    }

    void all() {
        spread();
        spreadRefused();
        kindFor();
        kindForLeast();
        kindForRefused();
        tempted();
        temptedRefused();
        missed();
        missedAway();
        missedRefused();
        warmest();
        warmestRefused();
        exchange();
        exchangeRefused();
        deal();
        dealIsMore();
        dealRefused();
        orders();
        ordersLeaveNoneCold();
        ordersRefused();
    }

    private Story ringOfJust(int rooms) {
        Story s = edges.house();
        for (int room = 0; room < rooms; room++) {
            String change = "change " + room + " ";
            s.does("room 2", change + "4 " + (room + 1) % rooms, change + "7 2", change + "8 2", change + "2 999");
        }
        return s;
    }

    private void spread() {
        edges.promise(16, "ROOMS whose WARMTH behind n HOURS (1 to 60) AHEAD would be less than as it is, if one were a MISER, as "
            + "a set.");
        ringOfJust(8).due("spread 7 1", 1).due("spread 7 2", 3).due("spread 7 7", 127).due("spread 7 8", 255)
            .due("spread 7 60", 255).due("spread 0 1", 2);
        ringOfJust(2).due("spread 0 1", 2).due("spread 0 60", 3);
        edges.house(0).due("spread 0 1", 0).due("spread 0 60", 0);
        // As warm or warmer is not less: a MISER who got 2 gives 1 as an EVEN one does, and 1 more than a SPITEFUL one does.
        edges.house(0, 0).all(7, 2, 2).due("spread 0 1", 0).does("change 0 7 1").due("spread 0 1", 2);
        edges.house(Check.MISER, 0).due("spread 0 60", 0);
    }

    private void spreadRefused() {
        edges.promise(16, "BEYOND.");
        edges.house().refused("spread 0 1", Check.BEYOND);
        edges.house(0).beyond("spread # 1", 0, 0).beyond("spread 0 #", 1, 60);
        edges.house(EIGHT_EVEN).beyond("spread # 60", 0, 7).beyond("spread 7 #", 1, 60);
        edges.promise(16, "STATE: HOUR would be above 9999.");
        edges.late(9939, 0, 0).due("spread 0 60", 2).does("hours 1").refused("spread 0 60", Check.STATE).due("spread 0 59", 2)
            .refused("spread 2 60", Check.BEYOND).refused("spread 0 61", Check.BEYOND);
        edges.late(9999, 0).refused("spread 0 1", Check.STATE).refused("spread 1 1", Check.BEYOND);
    }

    private void kindFor() {
        edges.promise(17, "The KIND as which the one of a ROOM has it warmest behind n HOURS (1 to 60) AHEAD.");
        Story s = edges.house(Check.MISER, Check.JUST).all(4, 1, 0);
        // What it stokes comes back behind 2 HOURS at the earliest; behind 60 no COAL is left but by thrift.
        s.due("kindFor 0 1", 0).due("kindFor 0 2", Check.SAINTLY).due("kindFor 0 3", Check.SAINTLY).due("kindFor 0 60", 0);
        s.due("kindFor 1 60", 0);
        // The WARMTH of ROOM 0 is 165, 178, 164, 152, 177, 165, 164 as one of KINDS 0 to 6.
        two(Check.SPITEFUL, Check.JUST).all(1, 173, 147).all(2, 3, 5).all(3, 12, 13).all(7, 2, 0).due("kindFor 0 3", 1);
        // 191, 204, 205, 178, 202, 191, 192
        two(Check.MISER, Check.JUST).all(1, 176, 94).all(2, 3, 999).all(3, 12, 3).all(7, 1, 2).all(8, 2, 2)
            .due("kindFor 0 3", 2);
        // 120, 120, 120, 122, 120, 120, 120
        two(Check.SPITEFUL, Check.KINDLY).all(1, 159, 112).all(2, 5, 5).all(3, 5, 14).all(7, 4, 0).all(8, 2, 1)
            .due("kindFor 0 4", 3);
        // 71, 86, 86, 71, 94, 71, 86
        two(Check.SAINTLY, Check.SPITEFUL).all(1, 193, 187).all(2, 999, 5).all(3, 2, 3).all(7, 2, 2).all(8, 3, 0)
            .due("kindFor 0 2", 4);
        // 160, 160, 160, 147, 159, 160, 161
        two(Check.EVEN, Check.JUST).all(1, 110, 60).all(2, 999, 5).all(3, 16, 3).all(7, 1, 3).all(8, 0, 1)
            .due("kindFor 0 3", 6);
        // A SLOW one gives the 3 that it gave, in an odd HOUR; its WARMTH behind that HOUR comes of it in the next one.
        two(0, Check.JUST).does("hours 1", "change 0 8 3", "change 0 7 1").due("kindFor 0 2", 5);
    }

    private Story two(int one, int other) {
        return edges.house(one, other).all(4, 1, 0);
    }

    private void kindForLeast() {
        edges.promise(17, "The KIND as which the one of a ROOM has it warmest");
        // As its own KIND or another one it is as warm: the least counts.
        for (int kind = 0; kind < 7; kind++) {
            edges.house(kind).due("kindFor 0 1", 0).due("kindFor 0 60", 0);
        }
        edges.house(6, 6, 6, 6, 6, 6, 6, 6).due("kindFor 7 1", 0);
    }

    private void kindForRefused() {
        edges.promise(17, "BEYOND.");
        edges.house().refused("kindFor 0 1", Check.BEYOND);
        edges.house(0).beyond("kindFor # 1", 0, 0).beyond("kindFor 0 #", 1, 60);
        edges.house(EIGHT_EVEN).beyond("kindFor # 60", 0, 7).beyond("kindFor 7 #", 1, 60);
        edges.promise(17, "STATE.");
        edges.late(9939, 0).due("kindFor 0 60", 0).does("hours 1").refused("kindFor 0 60", Check.STATE)
            .due("kindFor 0 59", 0).refused("kindFor 1 60", Check.BEYOND).refused("kindFor 0 61", Check.BEYOND);
        edges.late(9999, 0).refused("kindFor 0 1", Check.STATE).refused("kindFor 1 1", Check.BEYOND);
    }

    private void tempted() {
        edges.promise(18, "ROOMS in which the one there, being EVEN instead, would have more WARMTH of its own behind n HOURS "
            + "(1 to 60) AHEAD, as a set.");
        edges.house().due("tempted 1", 0).due("tempted 60", 0);
        edges.house(EIGHT_EVEN).due("tempted 1", 0).due("tempted 60", 0);
        // Each MISER would be given back what it gave to a JUST one: not behind 1 HOUR.
        edges.house(3, 2, 3, 2, 3, 2, 3, 2).all(4, 1, 0, 3, 2, 5, 4, 7, 6).due("tempted 1", 0).due("tempted 2", 85)
            .due("tempted 60", 85);
        edges.house(2, 3, 2, 3, 2, 3, 2, 3).all(4, 1, 0, 3, 2, 5, 4, 7, 6).due("tempted 2", 170);
        // As much is not more.
        edges.house(Check.JUST, Check.JUST).all(4, 1, 0).due("tempted 2", 0);
        // EVEN and no other: the MISER who got 3 gives 1 as an EVEN one does; in HOUR 1 it would give 2 or 3 as another.
        edges.house(Check.MISER, Check.JUST).does("hours 1").all(4, 1, 0).all(1, 150, 100).all(7, 3, 0).all(8, 3, 0)
            .due("tempted 2", 0).does("change 0 7 1").due("tempted 2", 1);
    }

    private void temptedRefused() {
        edges.promise(18, "BEYOND.");
        edges.house().beyond("tempted #", 1, 60);
        edges.house(EIGHT_EVEN).beyond("tempted #", 1, 60);
        edges.promise(18, "STATE.");
        edges.late(9939).due("tempted 60", 0).does("hours 1").refused("tempted 60", Check.STATE).due("tempted 59", 0)
            .refused("tempted 61", Check.BEYOND);
        edges.late(9999, 0).refused("tempted 1", Check.STATE);
    }

    private void missed() {
        edges.promise(19, "The ROOM whose being AWAY (it alone changes) takes most WARMTH from all others together behind n HOURS "
            + "(1 to 60) AHEAD.");
        edges.house(0).due("missed 1", 0).due("missed 60", 0);
        edges.house(0, 0, 0, 0, 0, 0, 0, Check.SAINTLY).due("missed 1", 7).due("missed 60", 0).all(2, 999, 999, 999, 999, 999,
            999, 999, 999).due("missed 60", 7);
        edges.house(EIGHT_EVEN).due("missed 1", 0).does("change 0 6 1").due("missed 1", 1);
        // ROOM 0 takes 14 from one, ROOM 1 takes 14 from each of two, by what the JUST one hands on.
        edges.house(0, 0, Check.JUST, 0).all(4, 7, 2, 3, 7).due("missed 1", 1).due("missed 2", 1);
        // From all others: ROOM 0's absence takes 52 from ROOM 1 and 27 from itself, ROOM 2's 56 from ROOM 3.
        edges.house(Check.SAINTLY, Check.JUST, Check.SAINTLY, 0).all(4, 1, 0, 3, 7).does("change 3 3 20").due("missed 2", 2)
            .does("change 3 3 11").due("missed 2", 0);
    }

    private void missedAway() {
        edges.promise(19, "(it alone changes)");
        // One who is AWAY takes nothing more; if it comes to that, the least number counts.
        edges.house(0, 0, 0).all(4, 1, 2, 0).does("change 0 5 1").due("missed 1", 1).does("change 1 5 1").due("missed 1", 2)
            .does("change 2 5 1").due("missed 1", 0);
        edges.house(0, 0).due("missed 1", 0).does("change 0 2 0").due("missed 1", 0);
    }

    private void missedRefused() {
        edges.promise(19, "BEYOND.");
        edges.house().beyond("missed #", 1, 60);
        edges.house(EIGHT_EVEN).beyond("missed #", 1, 60);
        edges.promise(19, "STATE.");
        edges.late(9939, 0, 0).due("missed 60", 0).does("hours 1").refused("missed 60", Check.STATE).due("missed 59", 0)
            .refused("missed 61", Check.BEYOND);
        edges.late(9999).refused("missed 1", Check.STATE).refused("missed 61", Check.BEYOND);
        edges.promise(19, "NONE: there is none.");
        edges.house().refused("missed 1", Check.NONE).refused("missed 60", Check.NONE).refused("missed 61", Check.BEYOND);
        edges.late(9998).refused("missed 1", Check.NONE).refused("missed 2", Check.STATE);
    }

    /** ROOM 7 is the coldest, heated by a MISER in ROOM 6; ROOM 7's SAINTLY one would give 3 there. */
    private Story coldLast() {
        return edges.house(0, 0, 0, 0, 0, 0, Check.MISER, Check.SAINTLY).all(1, 150, 150, 150, 150, 150, 150, 150, 40);
    }

    /** ROOM 1 is the coldest, heated by a MISER in ROOM 0; any other one would give 1 there. */
    private Story coldSecond() {
        return edges.house(Check.MISER, 0, 0, 0, 0, 0, 0, 0).all(1, 150, 40, 150, 150, 150, 150, 150, 150);
    }

    private void warmest() {
        edges.promise(20, "The most WARMTH of the coldest behind n HOURS (1 to 24) AHEAD, those who live there changing ROOMS by "
            + "some pair (or none).");
        edges.house(0).due("warmest 1", 92).due("warmest 24", 30);
        coldLast().due("ahead 1 3", 38).due("warmest 1", 79).due("warmest 2", 114).due("warmest 24", 119);
        coldSecond().due("ahead 1 3", 38).due("warmest 1", 52).due("warmest 24", 35);
        // None is better: as it is.
        edges.house(EIGHT_EVEN).due("warmest 1", 106).due("warmest 24", 155);
        edges.house(0, 0).due("warmest 1", 92);
    }

    private void warmestRefused() {
        edges.promise(20, "BEYOND.");
        edges.house().beyond("warmest #", 1, 24);
        edges.house(EIGHT_EVEN).beyond("warmest #", 1, 24);
        edges.promise(20, "STATE: without ROOMS, too.");
        edges.house().refused("warmest 1", Check.STATE).refused("warmest 24", Check.STATE).refused("warmest 25", Check.BEYOND);
        edges.late(9975, 0).due("warmest 24", 30).does("hours 1").refused("warmest 24", Check.STATE)
            .refused("warmest 25", Check.BEYOND).due("warmest 23", 30);
        edges.late(9999).refused("warmest 1", Check.STATE).does("room 0").refused("warmest 1", Check.STATE);
    }

    private void exchange() {
        edges.promise(21, "That pair (as by move()): 10 times the lesser, and the other one; of several the first so.");
        coldLast().due("exchange 1", 67).due("exchange 2", 67).due("exchange 24", 6).does("move 6 7").due("ahead 1 3", 79);
        coldSecond().due("exchange 1", 1).due("exchange 24", 1);
        coldSecond().does("change 7 0 4").due("exchange 1", 7).does("change 5 0 4").due("exchange 1", 5);
        coldSecond().does("move 1 0").due("exchange 1", Check.NONE);
        coldSecond().does("out 0").due("exchange 1", 1).due("warmest 1", 50);
        // By move() KIND, AWAY and GAVE go, not KIND alone: here no one else is AWAY.
        edges.house(EIGHT_EVEN).all(1, 150, 40, 150, 150, 150, 150, 150, 150).does("change 0 5 1").due("exchange 1", 1)
            .due("warmest 1", 52);
    }

    private void exchangeRefused() {
        edges.promise(21, "BEYOND.");
        edges.house().beyond("exchange #", 1, 24);
        edges.house(EIGHT_EVEN).beyond("exchange #", 1, 24);
        edges.promise(21, "STATE.");
        edges.house().refused("exchange 1", Check.STATE).refused("exchange 24", Check.STATE);
        edges.late(9975, 3, 0).all(4, 1, 0).does("change 1 1 40").due("exchange 24", 1).does("hours 1")
            .refused("exchange 24", Check.STATE).refused("exchange 25", Check.BEYOND).due("exchange 23", 1);
        edges.late(9999, 0).refused("exchange 1", Check.STATE);
        edges.promise(21, "NONE: none is better than as it is.");
        edges.house(0).refused("exchange 1", Check.NONE).refused("exchange 24", Check.NONE);
        edges.house(EIGHT_EVEN).refused("exchange 1", Check.NONE).refused("exchange 24", Check.NONE);
        edges.late(9998, 0, 0).refused("exchange 1", Check.NONE).refused("exchange 2", Check.STATE);
    }

    /**
     * Two ROOMS heat one another. The first got 3, and its one is EVEN; the second got none, and its one is JUST. If they
     * change, the second gets 3 for 1 and the first 1 for none: 124 for 92, and 106 for 97. No one else has COAL.
     */
    private Story bothGain(int first, int second) {
        Story s = edges.house(EIGHT_EVEN).all(2, 0, 0, 0, 0, 0, 0, 0, 0);
        return gainToo(s, first, second);
    }

    private Story gainToo(Story s, int first, int second) {
        String one = "change " + first + " ";
        String other = "change " + second + " ";
        return s.does(one + "2 50", other + "2 50", other + "0 2", one + "4 " + second, other + "4 " + first, one + "7 3",
            other + "7 0", other + "1 90");
    }

    private void deal() {
        edges.promise(22, "Two ROOMS such that, those who live there changing by move(), each has more WARMTH in its new ROOM "
            + "behind n HOURS (1 to 24) AHEAD than it would have in its old one without that: 10 times the lesser, and the "
            + "other one; the first so.");
        bothGain(0, 1).due("deal 1", 1);
        bothGain(6, 7).due("deal 1", 67).due("deal 23", 67).due("deal 24", Check.NONE);
        bothGain(7, 6).due("deal 1", 67);
        bothGain(0, 7).due("deal 1", 7);
        bothGain(0, 1).does("out 0").due("deal 1", 1);
        gainToo(bothGain(2, 3), 6, 7).due("deal 1", 23);
        gainToo(bothGain(6, 7), 0, 1).due("deal 1", 1).does("move 0 1").due("deal 1", 67);
    }

    private void dealIsMore() {
        edges.promise(22, "each has more WARMTH in its new ROOM");
        // The one of ROOM 0 would have 124 for 123, then for 124; the one of ROOM 1 106 for 105, then for 106.
        edges.house(0, 2).all(4, 1, 0).all(7, 3, 0).all(1, 134, 90).due("deal 1", 1).does("change 0 1 135")
            .due("deal 1", Check.NONE);
        edges.house(0, 2).all(4, 1, 0).all(7, 3, 0).all(1, 100, 99).due("deal 1", 1).does("change 1 1 100")
            .due("deal 1", Check.NONE);
    }

    private void dealRefused() {
        edges.promise(22, "BEYOND.");
        edges.house().beyond("deal #", 1, 24);
        edges.house(EIGHT_EVEN).beyond("deal #", 1, 24);
        edges.promise(22, "STATE.");
        edges.house().refused("deal 1", Check.STATE).refused("deal 24", Check.STATE).refused("deal 25", Check.BEYOND);
        edges.late(9975, 0).refused("deal 24", Check.NONE).does("hours 1").refused("deal 24", Check.STATE)
            .refused("deal 23", Check.NONE);
        edges.late(9999, 0).refused("deal 1", Check.STATE).refused("deal 25", Check.BEYOND);
        edges.promise(22, "NONE.");
        edges.house(0).refused("deal 1", Check.NONE).refused("deal 24", Check.NONE);
        edges.house(EIGHT_EVEN).refused("deal 1", Check.NONE).refused("deal 24", Check.NONE);
        edges.late(9998, 0, 0).refused("deal 1", Check.NONE).refused("deal 2", Check.STATE);
    }

    private void orders() {
        edges.promise(23, "Of all orders in which KINDS of the first k ROOMS (2 to 5) can be dealt to these anew (k times k - 1 "
            + ".., like ones counted apart), how many leave no ROOM COLD behind n HOURS (1 to 24) AHEAD.");
        int[] all = {2, 6, 24, 120};
        for (int k = 2; k <= 5; k++) {
            // All are warm, and like ones are counted apart.
            edges.house(EIGHT_EVEN).due("orders " + k + " 1", all[k - 2]).due("orders " + k + " 24", all[k - 2]);
            edges.house(new int[k]).due("orders " + k + " 1", all[k - 2]);
        }
        // One place must not have the MISER, who is among the first k.
        edges.house(3, 0, 0, 0, 0).all(4, 1, 2, 3, 4, 0).does("change 1 1 50").due("orders 2 1", 1).due("orders 3 1", 4)
            .due("orders 4 1", 18).due("orders 5 1", 96);
        // One place must have the SAINTLY one, and that has it or not.
        edges.house(4, 0, 0, 0, 3).all(4, 1, 2, 3, 4, 0).does("change 0 1 40").due("orders 4 1", 0).due("orders 5 1", 24);
    }

    private void ordersLeaveNoneCold() {
        edges.promise(23, "how many leave no ROOM COLD");
        // ROOM 7 is none of the first, but COLD; 60 is not COLD.
        edges.house(EIGHT_EVEN).does("change 7 1 0").due("orders 2 1", 0).due("orders 5 1", 0);
        edges.house(0, 0).all(4, 7, 7).all(1, 64, 64).due("ahead 1 3", 60).due("orders 2 1", 2).does("change 0 1 63")
            .due("ahead 1 3", 59).due("orders 2 1", 0);
    }

    private void ordersRefused() {
        edges.promise(23, "BEYOND: there are not so many ROOMS, too.");
        edges.house().refused("orders 2 1", Check.BEYOND).refused("orders 0 1", Check.BEYOND);
        edges.house(0).refused("orders 2 1", Check.BEYOND).refused("orders 1 1", Check.BEYOND);
        edges.house(0, 0).beyond("orders # 1", 2, 2).beyond("orders 2 #", 1, 24);
        edges.house(0, 0, 0, 0).beyond("orders # 24", 2, 4);
        edges.house(EIGHT_EVEN).beyond("orders # 1", 2, 5).beyond("orders 5 #", 1, 24);
        edges.promise(23, "STATE.");
        edges.late(9975, 0, 0).does("out 60").due("orders 2 24", 2).does("hours 1").refused("orders 2 24", Check.STATE)
            .due("orders 2 23", 2).refused("orders 3 24", Check.BEYOND).refused("orders 2 25", Check.BEYOND);
        edges.late(9999, 0, 0).refused("orders 2 1", Check.STATE).refused("orders 1 1", Check.BEYOND)
            .refused("orders 3 1", Check.BEYOND);
    }
}
