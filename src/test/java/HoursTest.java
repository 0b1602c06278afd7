/** Promises 9 to 15: hours, now, ahead, cold, spent, rest, circle. */
public final class HoursTest {
    private static final Check check = new Check();

    public static void main(String[] args) {
        hours();
        coalAndAbsence();
        now();
        ahead();
        cold();
        spent();
        rest();
        circle();
        lateHours();
        check.end();
    }

    private static void hours() {
        check.promise("9");
        WarmWalls x = Check.house(0, 0);
        check.due("hours(0)", x.hours(0), Check.BEYOND);
        check.due("hours(101)", x.hours(101), Check.BEYOND);
        check.due("hours(-1)", x.hours(-1), Check.BEYOND);
        check.due("hours(1)", x.hours(1), 2);
        // Room 0 gets nothing: 100 - 80 / 10. Room 1 gets 1: 115 - 95 / 10.
        check.due("unheated", x.of(0, 1), 92);
        check.due("heated", x.of(1, 1), 106);
        check.due("got", x.of(0, 7), 0);
        check.due("got", x.of(1, 7), 1);
        check.due("coal", x.of(0, 2), 49);
        check.due("coal of one that heats none that there is", x.of(1, 2), 49);
        check.due("hours(2)", x.hours(2), 4);
        // 92 - 7 = 85, - 6 = 79. 121 - 10 = 111, 126 - 10 = 116.
        check.due("unheated", x.of(0, 1), 79);
        check.due("heated", x.of(1, 1), 116);
        check.due("hour", x.now(0), 3);

        WarmWalls y = Check.house(Check.JUST, 0, 0);
        Check.changeAll(y, 7, 3, 0, 0);
        Check.changeAll(y, 4, 1, 0, 0);
        Check.changeAll(y, 6, 0, 2, 0);
        Check.changeAll(y, 1, 290, 20, 19);
        Check.changeAll(y, 3, 1, 20, 1);
        check.due("all at once", y.hours(1), 5);
        // Room 0 gets what room 2 gives: 305 is held at 300, less all above OUT.
        check.due("a wall of 1", y.of(0, 1), 20);
        check.due("got from two, one damped away", y.of(0, 7), 1);
        check.due("gave is what was stoked, not what came", y.of(1, 8), 1);
        // 20 + 45 = 65, less 45 / 20.
        check.due("quotients are cut", y.of(1, 1), 63);
        check.due("nothing is lost below OUT", y.of(2, 1), 19);
        y.out(64);
        y.hours(1);
        check.due("a just one gives what it got", y.of(0, 8), 1);
        check.due("held at 300", held(), 290);
    }

    /** 300 + 15, held at 300, less (300 - 100) / 20. */
    private static int held() {
        WarmWalls x = Check.house(0, 0);
        x.change(1, 1, 300);
        x.change(1, 3, 20);
        x.out(100);
        x.hours(1);
        return x.of(1, 1);
    }

    private static void coalAndAbsence() {
        check.promise("9 (COAL, AWAY, DAMPER)");
        WarmWalls x = Check.house(Check.SAINTLY, Check.JUST, 0);
        x.change(0, 2, 1);
        x.change(1, 7, 3);
        x.change(1, 5, 1);
        x.change(2, 4, 0);
        x.change(2, 6, 3);
        check.due("coal at most, none from one who is away", x.hours(1), 2);
        check.due("gave", x.of(0, 8), 1);
        check.due("coal", x.of(0, 2), 0);
        check.due("away", x.of(1, 8), 0);
        check.due("coal of one away", x.of(1, 2), 50);
        check.due("got nothing through a damper", x.of(0, 7), 0);
        check.due("got", x.of(1, 7), 1);
        check.due("got from one away", x.of(2, 7), 0);
        check.due("no coal left", x.hours(1), 1);
        check.due("gave none", x.of(0, 8), 0);
        check.due("shovels of many hours", x.hours(100), 48);
    }

    private static void now() {
        check.promise("10");
        WarmWalls x = Check.house(0, 0, 0, 0);
        Check.changeAll(x, 1, 60, 59, 130, 59);
        Check.changeAll(x, 2, 1, 2, 3, 999);
        check.due("hour", x.now(0), 0);
        check.due("cold", x.now(1), 10);
        check.due("coal", x.now(2), 1005);
        check.due("warmth", x.now(3), 308);
        check.due("out", x.now(4), 20);
        check.due("coldest", x.now(5), 1);
        check.due("what 6", x.now(6), Check.BEYOND);
        check.due("what -1", x.now(-1), Check.BEYOND);
        check.due("coldest of none", new WarmWalls().now(5), -1);
        x.hours(7);
        check.due("hour", x.now(0), 7);
    }

    private static void ahead() {
        check.promise("11");
        WarmWalls x = Check.house(0, 0);
        x.change(0, 1, 62);
        int[] nothing = {0, 0, 162, 62, 62, 100};
        // 62, 58, 55, 52 and 100, 106, 111, 116
        int[] three = {6, 1, 168, 52, 52, 116};
        for (int what = 0; what < 6; what++) {
            check.due("0 hours, what " + what, x.ahead(0, what), nothing[what]);
            check.due("3 hours, what " + what, x.ahead(3, what), three[what]);
        }
        check.due("nothing changes", x.of(0, 1), 62);
        check.due("nothing changes", x.of(0, 2), 50);
        check.due("nothing changes", x.now(0), 0);
        check.due("no such room", x.ahead(3, 6), Check.BEYOND);
        check.due("what -1", x.ahead(3, -1), Check.BEYOND);
        check.due("what", x.ahead(3, Integer.MAX_VALUE), Check.BEYOND);
        check.due("what", x.ahead(3, Integer.MIN_VALUE), Check.BEYOND);
        check.due("n -1", x.ahead(-1, 0), Check.BEYOND);
        check.due("n 101", x.ahead(101, 0), Check.BEYOND);
        check.due("n 100", x.ahead(100, 0), 100);
        check.due("least of none", new WarmWalls().ahead(5, 3), 300);
        check.due("no room 0", new WarmWalls().ahead(5, 4), Check.BEYOND);
        x.hours(3);
        check.due("as it was told", x.of(0, 1), 52);
        check.due("as it was told", x.of(1, 1), 116);
    }

    private static void cold() {
        check.promise("12");
        WarmWalls x = Check.house(0, 0);
        // 100, 92, 85, 79, 74, 69, 65, 61, 57
        check.due("unheated", x.cold(0), 8);
        // Coal for 50 hours; from there as slow as any wall of 10.
        check.due("heated till the coal ends", x.cold(1) > 50 && x.cold(1) < 100 ? 1 : 0, 1);
        x.change(0, 1, 59);
        check.due("cold now", x.cold(0), 0);
        x.change(0, 1, 60);
        check.due("60 is not cold", x.cold(0), 1);
        x.out(60);
        check.due("never", x.cold(0), Check.NONE);
        check.due("no such room", x.cold(2), Check.BEYOND);
        check.due("no such room", x.cold(-1), Check.BEYOND);
    }

    private static void spent() {
        check.promise("13");
        WarmWalls x = Check.house(Check.SAINTLY, 0, 0);
        Check.changeAll(x, 2, 5, 100, 101);
        // A saintly one that is not warm stokes 2: 3, 1, 0.
        x.change(0, 1, 100);
        check.due("two an hour", x.spent(0), 3);
        check.due("behind 100", x.spent(1), 100);
        check.due("later than that", x.spent(2), Check.NONE);
        x.change(1, 2, 0);
        check.due("spent now", x.spent(1), 0);
        x.change(0, 5, 1);
        check.due("away", x.spent(0), Check.NONE);
        check.due("no such room", x.spent(3), Check.BEYOND);
        check.due("no such room", x.spent(-1), Check.BEYOND);
        check.due("nothing changes", x.of(0, 2), 5);
    }

    private static void rest() {
        check.promise("14");
        check.due("without rooms", new WarmWalls().rest(), 1);
        WarmWalls x = Check.house(0, 0);
        check.due("even ones rest at once", x.rest(), 1);
        x.change(0, 8, 0);
        check.due("behind one hour", x.rest(), 2);
        // Two just ones hand what they got to and fro.
        WarmWalls y = Check.house(Check.JUST, Check.JUST);
        Check.changeAll(y, 4, 1, 0);
        Check.changeAll(y, 7, 2, 1);
        Check.changeAll(y, 8, 2, 1);
        Check.changeAll(y, 2, 999, 999);
        check.due("a rest first", y.rest(), 1);
        y.hours(1);
        check.due("then round and round", y.rest(), Check.NONE);
        Check.changeAll(y, 2, 999, 30);
        check.due("till coal ends", y.rest() > 15 ? 1 : 0, 1);
        check.due("nothing changes", y.now(0), 1);
        // A just one hands on one less each second hour: 2, 1 behind a damper of 1.
        WarmWalls z = Check.house(Check.JUST, Check.JUST);
        Check.changeAll(z, 4, 1, 0);
        Check.changeAll(z, 7, 3, 3);
        Check.changeAll(z, 6, 1, 1);
        // GAVE: 1 1, 3 3, 2 2, 1 1, 0 0, 0 0.
        check.due("it runs down", z.rest(), 5);
        check.due("the 60th is the last", last(60), 60);
        check.due("the 61st is too late", last(61), Check.NONE);
    }

    /** A pair that goes round until the coal of both ends, so that the HOUR n is the first rest. */
    private static int last(int n) {
        WarmWalls x = Check.house(Check.JUST, Check.JUST);
        Check.changeAll(x, 4, 1, 0);
        // One shovel goes to and fro: room 0 stokes it in odd hours, room 1 in even ones.
        Check.changeAll(x, 7, 1, 0);
        Check.changeAll(x, 8, 0, 1);
        // One HOUR behind the last shovel GAVE still changes, to nothing; the one behind that is a rest.
        int stoked = n - 2;
        Check.changeAll(x, 2, (stoked + 1) / 2, stoked / 2);
        return x.rest();
    }

    private static void circle() {
        check.promise("15");
        check.due("without rooms the hour's rest alone goes round", new WarmWalls().circle(), 2);
        WarmWalls x = Check.house(0, 0);
        check.due("at rest", x.circle(), 2);
        WarmWalls y = ring(5, 0);
        check.due("a shovel in a ring of 5", y.circle(), 10);
        check.due("a shovel in a ring of 4", ring(4, 0).circle(), 4);
        check.due("a shovel in a ring of 6", ring(6, 0).circle(), 6);
        check.due("a shovel in a ring of 7: 14", ring(7, 0).circle(), Check.NONE);
        check.due("a shovel in a ring of 8", ring(8, 0).circle(), 8);
        WarmWalls two = ring(7, 0);
        two.change(2, 4, 0);
        two.change(6, 4, 3);
        two.change(3, 7, 1);
        check.due("one in a ring of 3 and one in a ring of 4", two.circle(), 12);
        WarmWalls alone = Check.house(0);
        alone.change(0, 2, 24);
        check.due("room 0 counts", alone.circle(), Check.NONE);
        check.due("nothing changes", y.now(0), 0);
        check.due("in hour 1", ring(5, 1).circle(), 10);
        WarmWalls z = Check.house(0, 0);
        z.change(0, 2, 24);
        check.due("coal that ends behind the 24th hour", z.circle(), Check.NONE);
        z.change(0, 2, 23);
        check.due("coal that ended", z.circle(), 2);
        z.change(0, 2, 30);
        check.due("coal that ends at last: behind 24 it still gave", z.circle(), 2);
    }

    private static WarmWalls ring(int rooms, int hours) {
        WarmWalls x = new WarmWalls();
        for (int room = 0; room < rooms; room++) {
            x.room(Check.JUST);
            x.change(room, 4, (room + 1) % rooms);
            x.change(room, 7, room == 0 ? 1 : 0);
        }
        if (hours > 0) {
            x.hours(hours);
        }
        return x;
    }

    private static void lateHours() {
        check.promise("9 to 15 (STATE)");
        WarmWalls x = new WarmWalls();
        Check.passTo(x, 9899);
        x.room(0);
        x.change(0, 2, 999);
        x.change(0, 4, 3);
        check.due("cold in time", x.cold(0), 8);
        check.due("spent in time", x.spent(0), Check.NONE);
        check.due("rest in time", x.rest(), 1);
        check.due("circle in time", x.circle(), 2);
        check.due("ahead in time", x.ahead(100, 0), 100);
        x.hours(1);
        check.due("cold", x.cold(0), Check.STATE);
        check.due("no room is asked first", x.cold(1), Check.BEYOND);
        check.due("spent", x.spent(0), Check.STATE);
        check.due("no room is asked first", x.spent(1), Check.BEYOND);
        check.due("rest", x.rest(), Check.STATE);
        check.due("circle", x.circle(), Check.STATE);
        check.due("ahead", x.ahead(100, 0), Check.STATE);
        check.due("n is asked first", x.ahead(101, 0), Check.BEYOND);
        check.due("ahead 99", x.ahead(99, 0), 99);
        check.due("hours", x.hours(100), Check.STATE);
        check.due("n is asked first", x.hours(101), Check.BEYOND);
        check.due("hours 99", x.hours(99), 99);
        check.due("hour", x.now(0), 9999);
        check.due("hours", x.hours(1), Check.STATE);
        check.due("hour", x.now(0), 9999);
        check.due("ahead 0", x.ahead(0, 0), 0);
        check.due("ahead 1", x.ahead(1, 0), Check.STATE);
    }
}
