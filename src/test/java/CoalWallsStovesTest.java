/** Promises 24 to 28: coal, wall, turn, damper, own. */
public final class CoalWallsStovesTest {
    private static final Check check = new Check();

    public static void main(String[] args) {
        coal();
        wall();
        turn();
        damper();
        own();
        nothingChanges();
        wrongInputs();
        lateHours();
        check.end();
    }

    private static void coal() {
        check.promise("24");
        WarmWalls x = Check.house(Check.SAINTLY, Check.EVEN);
        x.change(1, 4, 0);
        // Room 0 is not warm: 2 shovels. Room 1: 46 is 46 - 2, 61 - 4 or 76 - 5 behind one hour.
        x.change(1, 1, 46);
        check.due("two shovels", x.coal(0, 1), 2);
        x.change(1, 1, 50);
        check.due("one shovel: 65 - 4", x.coal(0, 1), 1);
        x.change(1, 1, 70);
        check.due("none: 70 - 5", x.coal(0, 1), 0);
        x.change(1, 1, 30);
        check.due("30 + 30 - 4 is cold still", x.coal(0, 1), Check.NONE);
        x.change(0, 1, 120);
        check.due("three shovels where it is warm", x.coal(0, 1), 3);
        x.change(0, 5, 1);
        check.due("away", x.coal(0, 1), Check.NONE);
        x.change(0, 5, 0);
        x.change(0, 6, 3);
        check.due("damped", x.coal(0, 1), Check.NONE);
        WarmWalls y = Check.house(Check.EVEN, Check.EVEN);
        Check.changeAll(y, 1, 100, 20);
        y.change(1, 3, 20);
        // 34, 48 (49 - 1), 61 (63 - 2), 73, ..: in 60 hours it cools again, so the coal must last.
        check.due("three hours", y.coal(0, 3), 3);
        check.due("two aren't enough", y.coal(0, 2), Check.NONE);
        check.due("the coal it has doesn't matter", emptied(y).coal(0, 3), 3);
        check.due("it heats none that there is", y.coal(1, 3), Check.STATE);
        check.due("no such room is asked first", y.coal(2, 3), Check.BEYOND);
        WarmWalls z = Check.house(Check.SAINTLY, Check.EVEN);
        z.change(1, 4, 0);
        z.change(1, 2, 999);
        Check.changeAll(z, 1, 300, 0);
        Check.changeAll(z, 3, 20, 3);
        // 45 a shovelful hour; a wall of 3 takes a third: the last hours count, and 60 hours take 180.
        check.due("all of 60 hours", z.coal(0, 60) > 150 ? 1 : 0, 1);
    }

    private static WarmWalls emptied(WarmWalls x) {
        x.change(0, 2, 0);
        return x;
    }

    private static void wall() {
        check.promise("25");
        WarmWalls x = Check.house(0, 0);
        // 100 behind one hour: 100 - 80 / w.
        check.due("a wall of 2", x.wall(0, 1), 2);
        x.change(0, 1, 60);
        check.due("60 - 40 / 20", x.wall(0, 1), Check.NONE);
        x.change(0, 1, 61);
        check.due("61 - 41 / 20", x.wall(0, 1), Check.NONE);
        x.change(0, 1, 62);
        check.due("62 - 42 / 15", x.wall(0, 1), 15);
        x.out(41);
        x.change(0, 1, 60);
        check.due("60 - 19 / 20", x.wall(0, 1), 20);
        x.out(60);
        check.due("warm outside", x.wall(0, 60), 1);
        x.out(0);
        x.change(0, 1, 300);
        check.due("the wall that it has doesn't matter", x.wall(0, 5), thinned(x).wall(0, 5));
        check.due("no such room", x.wall(2, 1), Check.BEYOND);
    }

    private static WarmWalls thinned(WarmWalls x) {
        x.change(0, 3, 1);
        return x;
    }

    private static void turn() {
        check.promise("26");
        WarmWalls x = Check.house(0, 0, 0);
        Check.changeAll(x, 4, 1, 2, 1);
        Check.changeAll(x, 1, 60, 90, 60);
        // Room 2 heats 1; the coldest are 0 and 2, and room 1 heats 2.
        check.due("the cold one", x.turn(2, 1), 0);
        check.due("its own is colder, but that it can't: the first of like ones", x.turn(0, 1), 1);
        x.change(1, 4, 0);
        check.due("the cold one", x.turn(0, 1), 2);
        x.change(0, 5, 1);
        check.due("one who is away: the first that there is", x.turn(0, 1), 1);
        check.due("and from 1", x.turn(1, 1), 0);
        WarmWalls alone = Check.house(0);
        check.due("one alone", alone.turn(0, 1), Check.STATE);
        check.due("no such room is asked first", alone.turn(1, 1), Check.BEYOND);
        WarmWalls all = Check.house(0, 0, 0, 0, 0, 0, 0, 0);
        all.change(7, 1, 30);
        all.change(6, 4, 0);
        check.due("the last of 8", all.turn(3, 1), 7);
    }

    private static void damper() {
        check.promise("27");
        WarmWalls x = Check.house(Check.SAINTLY, Check.JUST);
        x.change(1, 4, 0);
        check.due("behind 1 all are alike", x.damper(0, 1), 0);
        check.due("none lets most come back", x.damper(0, 2), 0);
        x.change(1, 0, Check.SPITEFUL);
        x.change(0, 6, 3);
        check.due("none, though it has one of 3", x.damper(0, 2), 0);
        WarmWalls y = kindlyWithLittleCoal();
        check.due("it pays to damp, the least that does", y.damper(0, 3), 1);
        check.due("not for 2 hours", y.damper(0, 2), 0);
        // Only with all 3 damped away the saintly one stays below 120 for an hour: 121 instead of 120.
        WarmWalls z = Check.house(Check.SPITEFUL, Check.SAINTLY);
        Check.changeAll(z, 4, 1, 0);
        Check.changeAll(z, 1, 98, 118);
        Check.changeAll(z, 2, 6, 5);
        Check.changeAll(z, 3, 9, 15);
        Check.changeAll(z, 7, 3, 3);
        check.due("a damper of 3", z.damper(0, 4), 3);
    }

    /**
     * Heated by room 0, room 1 is at 125 behind an hour: its one stokes 1, 2 and has no more, and room 0 is at 28, 39,
     * 30. Damped it stays below 120: its one stokes 1, 1, 1, and room 0 is at 28, 32, 34.
     */
    private static WarmWalls kindlyWithLittleCoal() {
        WarmWalls x = Check.house(Check.EVEN, Check.KINDLY);
        x.change(1, 4, 0);
        Check.changeAll(x, 1, 20, 115);
        Check.changeAll(x, 3, 2, 20);
        x.change(1, 2, 3);
        return x;
    }

    private static void own() {
        check.promise("28");
        WarmWalls x = Check.house(Check.SAINTLY, Check.EVEN, Check.EVEN);
        Check.changeAll(x, 4, 1, 2, 0);
        check.due("the saintly one", x.own(1), 1);
        x.change(1, 5, 1);
        // Room 1 loses its saint, room 2 has now none, and its own 1 then.
        check.due("and one heated by one who is away", x.own(1), 5);
        x.change(2, 6, 1);
        check.due("a damper is the stove's own", x.own(1), 1);
        check.due("without rooms", new WarmWalls().own(5), 0);
        WarmWalls alone = Check.house(0);
        check.due("alone", alone.own(1), 1);
        alone.change(0, 2, 0);
        check.due("without coal", alone.own(1), 0);
    }

    private static void nothingChanges() {
        check.promise("24 to 28 (AHEAD changes nothing)");
        WarmWalls x = Check.house(Check.SAINTLY, Check.JUST, Check.EVEN);
        x.coal(0, 9);
        x.wall(1, 9);
        x.turn(0, 9);
        x.damper(0, 9);
        x.own(9);
        int[][] due = {{4, 100, 50, 10, 1, 0, 0, 1, 1}, {2, 100, 50, 10, 2, 0, 0, 1, 1}, {0, 100, 50, 10, 3, 0, 0, 1, 1}};
        for (int room = 0; room < 3; room++) {
            for (int what = 0; what < 9; what++) {
                check.due("of " + room + " " + what, x.of(room, what), due[room][what]);
            }
        }
        check.due("hour", x.now(0), 0);
    }

    private static void wrongInputs() {
        check.promise("24 to 28 (BEYOND)");
        WarmWalls x = Check.house(0, 0, 0);
        int[] wrong = {0, -1, 61};
        for (int n : wrong) {
            check.due("coal " + n, x.coal(0, n), Check.BEYOND);
            check.due("wall " + n, x.wall(0, n), Check.BEYOND);
            check.due("turn " + n, x.turn(0, n), Check.BEYOND);
            check.due("damper " + n, x.damper(0, n), Check.BEYOND);
            check.due("own " + n, x.own(n), Check.BEYOND);
        }
        int[] noRooms = {3, -1, 8};
        for (int room : noRooms) {
            check.due("coal of " + room, x.coal(room, 1), Check.BEYOND);
            check.due("wall of " + room, x.wall(room, 1), Check.BEYOND);
            check.due("turn of " + room, x.turn(room, 1), Check.BEYOND);
            check.due("damper of " + room, x.damper(room, 1), Check.BEYOND);
        }
        check.due("most", x.own(60) >= 0 ? 1 : 0, 1);
        check.due("most", x.damper(0, 60) >= 0 ? 1 : 0, 1);
        check.due("most", x.turn(0, 60) >= 0 ? 1 : 0, 1);
        x.out(100);
        check.due("most", x.wall(0, 60), 1);
        check.due("most", x.coal(0, 60), 0);
    }

    private static void lateHours() {
        check.promise("24 to 28 (STATE)");
        WarmWalls x = new WarmWalls();
        Check.passTo(x, 9990);
        x.room(0);
        x.room(0);
        check.due("coal in time", x.coal(0, 9), 1);
        check.due("wall in time", x.wall(1, 9), 4);
        check.due("turn in time", x.turn(0, 9), 1);
        check.due("damper in time", x.damper(0, 9), 0);
        check.due("own in time", x.own(9), 1);
        check.due("coal", x.coal(0, 10), Check.STATE);
        check.due("wall", x.wall(0, 10), Check.STATE);
        check.due("turn", x.turn(0, 10), Check.STATE);
        check.due("damper", x.damper(0, 10), Check.STATE);
        check.due("own", x.own(10), Check.STATE);
    }
}
