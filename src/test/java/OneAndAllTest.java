/** Promises 16 to 23: spread, kindFor, tempted, missed, warmest, exchange, deal, orders. */
public final class OneAndAllTest {
    private static final Check check = new Check();

    public static void main(String[] args) {
        spread();
        kindFor();
        tempted();
        missed();
        pairs();
        pairsByAbsence();
        deal();
        orders();
        nothingChanges();
        wrongInputs();
        lateHours();
        check.end();
    }

    /** Three just ones in a ring, each got and gave 2. */
    private static WarmWalls ringOfJust() {
        WarmWalls x = Check.house(Check.JUST, Check.JUST, Check.JUST);
        Check.changeAll(x, 4, 1, 2, 0);
        Check.changeAll(x, 7, 2, 2, 2);
        Check.changeAll(x, 8, 2, 2, 2);
        return x;
    }

    private static void spread() {
        check.promise("16");
        WarmWalls x = ringOfJust();
        check.due("the next one behind 1", x.spread(0, 1), 2);
        check.due("and the next behind 2", x.spread(0, 2), 6);
        check.due("all behind 3", x.spread(0, 3), 7);
        check.due("from room 2", x.spread(2, 1), 1);
        x.change(0, 0, Check.MISER);
        check.due("one who is a miser", x.spread(0, 5), 0);
        x.change(1, 0, Check.EVEN);
        check.due("an even one passes nothing on", x.spread(2, 4), 3);
        x.change(2, 7, 5);
        check.due("half of 3 is 1: no less than an even one", x.spread(1, 1), 0);
        x.change(1, 7, 5);
        x.change(1, 0, Check.SPITEFUL);
        check.due("no less than half of 3", x.spread(1, 1), 4);
    }

    private static void kindFor() {
        check.promise("17");
        WarmWalls x = Check.house(Check.MISER, Check.JUST);
        x.change(1, 4, 0);
        // Behind 1 hour nothing has come back: all kinds are alike.
        check.due("the least of like kinds", x.kindFor(0, 1), 0);
        // Room 1 hands back what it gets: a saintly one gives 2, cold or warm, else 3.
        check.due("a saintly one has most come back", x.kindFor(0, 2), Check.SAINTLY);
        x.change(0, 1, 130);
        check.due("a saintly one stokes 3 where it is warm", x.kindFor(0, 2), Check.SAINTLY);
        x.change(0, 7, 3);
        check.due("a just one that got 3 gives as much", x.kindFor(0, 2), Check.JUST);
        x.change(0, 2, 2);
        check.due("with coal of 2 a kindly one gives as much", x.kindFor(0, 2), Check.KINDLY);
        x.change(0, 2, 1);
        check.due("with coal of 1 an even one does", x.kindFor(0, 2), Check.EVEN);
        x.change(0, 2, 50);
        x.change(1, 0, Check.SPITEFUL);
        x.change(1, 5, 1);
        check.due("one who is away gives nothing back", x.kindFor(0, 30), Check.EVEN);
        // In an odd hour a slow one gives what it gave.
        WarmWalls y = Check.house(Check.EVEN, Check.JUST);
        y.change(1, 4, 0);
        y.hours(1);
        y.change(0, 8, 3);
        y.change(0, 7, 1);
        check.due("a slow one", y.kindFor(0, 2), Check.SLOW);
        // Its room is at 114, 114, 114, 101, 113, 114 behind 3 hours as one of the other kinds, at 115 as a spiteful one.
        WarmWalls z = Check.house(Check.SAINTLY, Check.JUST);
        Check.changeAll(z, 4, 1, 0);
        Check.changeAll(z, 1, 74, 29);
        Check.changeAll(z, 2, 2, 4);
        Check.changeAll(z, 3, 13, 20);
        Check.changeAll(z, 7, 1, 2);
        check.due("a spiteful one", z.kindFor(0, 3), Check.SPITEFUL);
    }

    private static void tempted() {
        check.promise("18");
        WarmWalls x = Check.house(Check.MISER, Check.JUST);
        x.change(1, 4, 0);
        // Both gave 1; a miser that got 1 gives none, so none comes back behind 2 hours.
        check.due("behind 1", x.tempted(1), 0);
        check.due("the miser behind 2", x.tempted(2), 1);
        x.change(0, 0, Check.SAINTLY);
        check.due("a saintly one would have less", x.tempted(2), 0);
        x.change(0, 0, Check.SPITEFUL);
        x.change(1, 0, Check.SPITEFUL);
        check.due("both of two spiteful ones", x.tempted(3), 0);
        Check.changeAll(x, 7, 1, 3);
        x.change(1, 0, Check.JUST);
        check.due("one who hands nothing on", x.tempted(2), 1);
        WarmWalls y = Check.house(Check.MISER, Check.JUST, Check.MISER, Check.JUST);
        Check.changeAll(y, 4, 1, 0, 3, 2);
        check.due("both misers", y.tempted(2), 5);
        check.due("without rooms", new WarmWalls().tempted(5), 0);
    }

    private static void missed() {
        check.promise("19");
        WarmWalls x = Check.house(Check.EVEN, Check.SAINTLY, Check.EVEN);
        // Room 2 heats none that there is.
        check.due("the one who gives most", x.missed(1), 1);
        x.change(1, 6, 3);
        check.due("the other one", x.missed(1), 0);
        x.change(0, 4, 2);
        x.change(1, 4, 0);
        x.change(2, 4, 0);
        x.change(1, 6, 0);
        check.due("saintly", x.missed(1), 1);
        x.change(1, 0, Check.EVEN);
        check.due("the first of like ones", x.missed(1), 0);
        x.change(0, 5, 1);
        check.due("one who is away takes no more", x.missed(1), 1);
        x.change(1, 5, 1);
        x.change(2, 5, 1);
        check.due("all away: the first", x.missed(1), 0);
        check.due("there is none", new WarmWalls().missed(1), Check.NONE);
        WarmWalls alone = Check.house(Check.EVEN);
        check.due("alone", alone.missed(9), 0);
        // What comes back to itself doesn't count: its own room's warmth is no one else's.
        WarmWalls y = Check.house(Check.SAINTLY, Check.JUST, Check.SAINTLY, Check.EVEN);
        Check.changeAll(y, 4, 1, 0, 3, 7);
        check.due("of others alone", y.missed(2), 0);
        WarmWalls z = Check.house(Check.SAINTLY, Check.EVEN, Check.SAINTLY, Check.JUST);
        Check.changeAll(z, 4, 1, 7, 3, 2);
        check.due("of others alone: the first of like ones", z.missed(2), 0);
        y.change(1, 4, 3);
        check.due("handed on to a third one", y.missed(3), 0);
        y.change(0, 6, 2);
        check.due("damped", y.missed(3), 2);
    }

    private static void pairs() {
        check.promise("20, 21");
        // Room 1 is the coldest: heated by room 0, whose one gives nothing, as it got nothing.
        WarmWalls x = Check.house(Check.MISER, Check.EVEN, Check.EVEN);
        Check.changeAll(x, 4, 1, 2, 0);
        Check.changeAll(x, 1, 100, 50, 150);
        // Behind 1 hour room 1 has 50 - 3 as it is, 65 - 4 with another one next door.
        check.due("as it goes", x.ahead(1, 3), 47);
        check.due("warmest", x.warmest(1), 61);
        check.due("by 0 and 1 or 0 and 2: the first", x.exchange(1), 1);
        x.change(1, 0, Check.SAINTLY);
        // A saintly one in room 0 gives 2: 80 - 6.
        check.due("warmest by 0 and 1", x.warmest(1), 74);
        check.due("exchange", x.exchange(1), 1);
        x.move(1, 2);
        check.due("warmest by 0 and 2", x.warmest(1), 74);
        check.due("exchange", x.exchange(1), 2);
        x.move(0, 2);
        check.due("best as it is", x.warmest(1), 74);
        check.due("none is better", x.exchange(1), Check.NONE);
        WarmWalls y = Check.house(Check.EVEN, Check.EVEN, Check.MISER, Check.EVEN);
        y.change(3, 4, 0);
        Check.changeAll(y, 1, 200, 62, 62, 50);
        // The miser leaves rooms 1, 2 or 3 at 58, 58, 47: best it heats room 0.
        check.due("warmest by 2 and 3", y.warmest(1), 61);
        check.due("exchange", y.exchange(1), 23);
        check.due("of one alone", Check.house(0).warmest(1), 92);
        check.due("none to exchange with", Check.house(0).exchange(1), Check.NONE);
        check.due("without rooms", new WarmWalls().warmest(1), Check.STATE);
        check.due("without rooms", new WarmWalls().exchange(1), Check.STATE);
        check.due("without rooms, n asked first", new WarmWalls().exchange(0), Check.BEYOND);
    }

    private static void pairsByAbsence() {
        check.promise("20, 21 (AWAY and GAVE go along)");
        WarmWalls x = Check.house(0, 0, 0);
        Check.changeAll(x, 4, 1, 2, 0);
        Check.changeAll(x, 1, 200, 80, 200);
        x.change(0, 5, 1);
        check.due("room 1 isn't heated", x.ahead(1, 3), 74);
        check.due("another's absence", x.warmest(1), 88);
        check.due("exchange", x.exchange(1), 1);
        WarmWalls y = Check.house(Check.SLOW, Check.SLOW);
        Check.changeAll(y, 4, 1, 0);
        y.hours(1);
        Check.changeAll(y, 1, 100, 50);
        Check.changeAll(y, 8, 0, 3);
        // 50 + 45 - 7 against 100 - 8.
        check.due("what a slow one gave", y.warmest(1), 88);
        check.due("exchange", y.exchange(1), 1);
    }

    private static void deal() {
        check.promise("22");
        // Room 0 warms the one next door: the miser there is warm, the saintly one here cold.
        WarmWalls x = Check.house(Check.SAINTLY, Check.MISER);
        Check.changeAll(x, 4, 1, 0);
        check.due("the one who would come loses", x.deal(1), Check.NONE);
        WarmWalls y = Check.house(Check.JUST, Check.EVEN, Check.EVEN, Check.EVEN);
        check.due("like ones gain from warmer rooms, and one loses", y.deal(3), Check.NONE);
        WarmWalls z = bothGain(0, 2);
        int kept = z.ahead(1, 2);
        check.due("deal", z.deal(1), 2);
        int first = z.ahead(1, 4);
        int other = z.ahead(1, 6);
        z.move(0, 2);
        check.due("the one from 0 is warmer", z.ahead(1, 6) > first ? 1 : 0, 1);
        check.due("the one from 2 is warmer", z.ahead(1, 4) > other ? 1 : 0, 1);
        check.due("warmth in all", z.ahead(1, 2) > kept ? 1 : 0, 1);
        check.due("not back again", z.deal(1), Check.NONE);
        check.due("1 and 2", bothGain(1, 2).deal(1), 12);
        check.due("2 and 4", bothGain(2, 4).deal(1), 24);
        WarmWalls w = bothGain(0, 2);
        w.change(0, 1, 134);
        check.due("124 instead of 123", w.deal(1), 2);
        w.change(0, 1, 135);
        check.due("124 instead of 124", w.deal(1), Check.NONE);
        w.change(0, 1, 100);
        w.change(2, 1, 100);
        check.due("106 instead of 106", w.deal(1), Check.NONE);
        check.due("alone", Check.house(0).deal(1), Check.NONE);
        check.due("without rooms", new WarmWalls().deal(1), Check.STATE);
        check.due("without rooms, n asked first", new WarmWalls().deal(25), Check.BEYOND);
    }

    /**
     * Two rooms heat one another. The first got 3 and its one is even, the second got none and its one is just: if they
     * change, the second gets 3 instead of 1, and the first gets 1 instead of none. So the even one has 124 instead of
     * 92, and the just one, whose room is colder, 106 instead of 97. The others heat rooms that aren't there.
     */
    private static WarmWalls bothGain(int first, int second) {
        WarmWalls x = new WarmWalls();
        for (int room = 0; room <= second; room++) {
            x.room(room == second ? Check.JUST : Check.EVEN);
            x.change(room, 4, 7);
        }
        x.change(first, 4, second);
        x.change(second, 4, first);
        x.change(first, 7, 3);
        x.change(second, 7, 0);
        x.change(second, 1, 90);
        return x;
    }

    private static void orders() {
        check.promise("23");
        WarmWalls x = Check.house(Check.EVEN, Check.EVEN, Check.EVEN, Check.EVEN, Check.EVEN);
        check.due("all warm: 2", x.orders(2, 1), 2);
        check.due("all warm: 6", x.orders(3, 1), 6);
        check.due("all warm: 24", x.orders(4, 1), 24);
        check.due("all warm: 120", x.orders(5, 1), 120);
        x.change(4, 1, 10);
        check.due("one cold in any order", x.orders(2, 1), 0);
        WarmWalls y = Check.house(Check.MISER, Check.EVEN, Check.EVEN, Check.SAINTLY);
        Check.changeAll(y, 4, 3, 0, 1, 2);
        Check.changeAll(y, 1, 100, 100, 100, 50);
        // Room 3 stays warm if room 0's one stokes; of 6 orders the miser is there in 2.
        check.due("of 3", y.orders(3, 1), 4);
        check.due("of 2", y.orders(2, 1), 1);
        check.due("of 4", y.orders(4, 1), 18);
        y.change(3, 1, 40);
        // 55 - 3 with 1 shovel, 70 - 5 with 2: the saintly one alone.
        check.due("of 4, the saintly one there", y.orders(4, 1), 6);
        check.due("of 3, it isn't among them", y.orders(3, 1), 0);
        y.change(0, 5, 1);
        check.due("absence stays with the room", y.orders(4, 1), 0);
        check.due("k 1", y.orders(1, 1), Check.BEYOND);
        check.due("k 6", y.orders(6, 1), Check.BEYOND);
        check.due("k 5 of 4", y.orders(5, 1), Check.BEYOND);
        check.due("n 0", y.orders(2, 0), Check.BEYOND);
        check.due("n 25", y.orders(2, 25), Check.BEYOND);
        check.due("n 24", y.orders(2, 24), 0);
        check.due("without rooms", new WarmWalls().orders(2, 1), Check.BEYOND);
        check.due("6 of 6", Check.house(0, 0, 0, 0, 0, 0).orders(6, 1), Check.BEYOND);
        dueOrders(1, 0, 1, 2);
        dueOrders(1, 0, 2, 1);
        dueOrders(1, 1, 0, 2);
        dueOrders(1, 1, 2, 0);
        dueOrders(1, 2, 0, 1);
        dueOrders(1, 2, 1, 0);
        dueOrders(24, 2, 0, 0, 0, 0);
        dueOrders(24, 0, 0, 0, 0, 2);
        dueOrders(12, 1, 1, 1, 0, 0);
        dueOrders(12, 0, 0, 1, 1, 1);
        dueOrders(4, 1, 0, 2, 0, 1);
        dueOrders(4, 0, 1, 0, 1, 2);
    }

    /**
     * A miser gives 0, an even one 1, a saintly one 2, a kindly one 1 and a spiteful one 0: how many orders give each
     * room's stove the shovels that the room it heats needs.
     */
    private static void dueOrders(int due, int... needs) {
        int[] warmths = {100, 50, 40};
        int[] kinds = {Check.MISER, Check.EVEN, Check.SAINTLY, Check.KINDLY, Check.SPITEFUL};
        WarmWalls x = new WarmWalls();
        for (int room = 0; room < needs.length; room++) {
            x.room(kinds[room]);
        }
        for (int room = 0; room < needs.length; room++) {
            int heated = (room + 1) % needs.length;
            x.change(room, 4, heated);
            x.change(heated, 1, warmths[needs[room]]);
        }
        check.due("orders of " + needs.length, x.orders(needs.length, 1), due);
    }

    private static void nothingChanges() {
        check.promise("16 to 23 (AHEAD changes nothing)");
        WarmWalls x = bothGain(0, 2);
        x.hold(3, 2);
        askAll(x);
        int[][] due = {{0, 100, 50, 10, 2, 0, 0, 3, 1}, {0, 100, 50, 10, 7, 0, 0, 1, 1}, {2, 90, 50, 10, 0, 0, 0, 0, 1}};
        for (int room = 0; room < 3; room++) {
            for (int what = 0; what < 9; what++) {
                check.due("of " + room + " " + what, x.of(room, what), due[room][what]);
            }
        }
        check.due("hour", x.now(0), 0);
        check.due("spot", x.as(3, Check.JUST), 2);
    }

    private static void askAll(WarmWalls x) {
        x.spread(0, 9);
        x.kindFor(1, 9);
        x.tempted(9);
        x.missed(9);
        x.warmest(9);
        x.exchange(9);
        x.deal(9);
        x.orders(3, 9);
    }

    private static void wrongInputs() {
        check.promise("16 to 22 (BEYOND)");
        WarmWalls x = bothGain(0, 2);
        int[] wrong = {0, -1, 61};
        for (int n : wrong) {
            check.due("spread " + n, x.spread(0, n), Check.BEYOND);
            check.due("kindFor " + n, x.kindFor(0, n), Check.BEYOND);
            check.due("tempted " + n, x.tempted(n), Check.BEYOND);
            check.due("missed " + n, x.missed(n), Check.BEYOND);
        }
        int[] wrongForPairs = {0, -1, 25};
        for (int n : wrongForPairs) {
            check.due("warmest " + n, x.warmest(n), Check.BEYOND);
            check.due("exchange " + n, x.exchange(n), Check.BEYOND);
            check.due("deal " + n, x.deal(n), Check.BEYOND);
        }
        check.due("spread of no room", x.spread(3, 1), Check.BEYOND);
        check.due("spread of no room", x.spread(-1, 1), Check.BEYOND);
        check.due("kindFor no room", x.kindFor(3, 1), Check.BEYOND);
        check.due("kindFor no room", x.kindFor(-1, 1), Check.BEYOND);
        check.due("most", x.spread(0, 60) >= 0 ? 1 : 0, 1);
        check.due("most", x.kindFor(0, 60) >= 0 ? 1 : 0, 1);
        check.due("most", x.tempted(60) >= 0 ? 1 : 0, 1);
        check.due("most", x.missed(60) >= 0 ? 1 : 0, 1);
        check.due("most", x.warmest(24) >= 0 ? 1 : 0, 1);
    }

    private static void lateHours() {
        check.promise("16 to 23 (STATE)");
        WarmWalls x = new WarmWalls();
        Check.passTo(x, 9996);
        check.due("no room at all: STATE ahead of NONE", x.missed(4), Check.STATE);
        x.room(0);
        x.room(0);
        check.due("in time", x.spread(0, 3), 2);
        check.due("in time", x.kindFor(0, 3), 0);
        check.due("in time", x.tempted(3), 0);
        check.due("in time", x.missed(3), 0);
        check.due("in time", x.warmest(3), 79);
        check.due("in time", x.exchange(3), Check.NONE);
        check.due("in time", x.deal(3), Check.NONE);
        check.due("in time", x.orders(2, 3), 2);
        check.due("spread", x.spread(0, 4), Check.STATE);
        check.due("kindFor", x.kindFor(0, 4), Check.STATE);
        check.due("tempted", x.tempted(4), Check.STATE);
        check.due("missed", x.missed(4), Check.STATE);
        check.due("warmest", x.warmest(4), Check.STATE);
        check.due("exchange", x.exchange(4), Check.STATE);
        check.due("deal", x.deal(4), Check.STATE);
        check.due("orders", x.orders(2, 4), Check.STATE);
        check.due("no such room is asked first", x.spread(2, 4), Check.BEYOND);
        check.due("not so many is asked first", x.orders(3, 4), Check.BEYOND);
    }
}
