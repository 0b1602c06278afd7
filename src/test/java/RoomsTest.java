/** Promises 1 to 8: a new object, room, of, change, out, heaters, reach, move. */
public final class RoomsTest {
    private static final Check check = new Check();

    public static void main(String[] args) {
        aNewObject();
        room();
        of();
        wants();
        change();
        out();
        heaters();
        reach();
        move();
        check.end();
    }

    private static void aNewObject() {
        check.promise("1");
        WarmWalls x = new WarmWalls();
        int[] atFirst = {0, 0, 0, 0, 0, 0, 1, 0};
        for (int what = 0; what < 8; what++) {
            check.due("count " + what, x.count(what), atFirst[what]);
        }
        check.due("out", x.now(4), 20);
        check.due("no image", x.undo(), Check.NONE);
        check.due("no sheet", x.write(0, 0, 0), Check.MISSING);
        check.due("no sheet", x.load(3), Check.MISSING);
        check.due("status", x.status(-1), 3);
    }

    private static void room() {
        check.promise("2");
        WarmWalls x = new WarmWalls();
        check.due("room(7)", x.room(7), Check.BEYOND);
        check.due("room(-1)", x.room(-1), Check.BEYOND);
        check.due("rooms", x.count(1), 0);
        for (int i = 0; i < 8; i++) {
            check.due("room", x.room(i % 7), i);
        }
        check.due("a 9th", x.room(0), Check.FULL);
        check.due("a 9th of no kind: asked first", x.room(7), Check.BEYOND);
        check.due("rooms", x.count(1), 8);
        check.due("kind of the last", x.of(7, 0), 0);
        check.due("it heats the first", x.of(7, 4), 0);
        check.due("kind of 6", x.of(6, 0), 6);
    }

    private static void of() {
        check.promise("3");
        WarmWalls x = Check.house(Check.SAINTLY, Check.MISER);
        int[] first = {4, 100, 50, 10, 1, 0, 0, 1, 1, 2};
        int[] second = {3, 100, 50, 10, 2, 0, 0, 1, 1, 0};
        for (int what = 0; what < 10; what++) {
            check.due("of 0 " + what, x.of(0, what), first[what]);
            check.due("of 1 " + what, x.of(1, what), second[what]);
        }
        check.due("of 2", x.of(2, 0), Check.BEYOND);
        check.due("of -1", x.of(-1, 9), Check.BEYOND);
        check.due("of what 10", x.of(0, 10), Check.BEYOND);
        check.due("of what -1", x.of(0, -1), Check.BEYOND);
    }

    private static void wants() {
        check.promise("3 (WANTS)");
        WarmWalls x = Check.house(0, 1, 2, 3, 4, 5, 6);
        Check.changeAll(x, 1, 120, 120, 120, 120, 120, 120, 120);
        Check.changeAll(x, 7, 4, 4, 4, 4, 4, 4, 4);
        Check.changeAll(x, 8, 3, 3, 3, 3, 3, 3, 3);
        dueWants(x, "warm", 1, 2, 3, 1, 3, 1, 3);
        Check.changeAll(x, 1, 119, 119, 119, 119, 119, 119, 119);
        Check.changeAll(x, 7, 2, 2, 2, 2, 2, 2, 2);
        dueWants(x, "less warm, GOT 2", 1, 1, 2, 1, 2, 1, 2);
        Check.changeAll(x, 7, 1, 1, 1, 1, 1, 1, 1);
        dueWants(x, "GOT 1", 1, 1, 1, 0, 2, 1, 0);
        Check.changeAll(x, 7, 0, 0, 0, 0, 0, 0, 0);
        dueWants(x, "GOT 0", 1, 1, 0, 0, 2, 1, 0);
        Check.changeAll(x, 7, 3, 3, 3, 3, 3, 3, 3);
        Check.changeAll(x, 2, 0, 0, 0, 0, 0, 0, 0);
        Check.changeAll(x, 5, 1, 1, 1, 1, 1, 1, 1);
        dueWants(x, "neither COAL nor being AWAY counts", 1, 1, 3, 1, 2, 1, 3);
        WarmWalls y = Check.house(Check.SLOW);
        y.hours(1);
        y.change(0, 8, 3);
        check.due("SLOW in an odd HOUR", y.of(0, 9), 3);
        y.hours(1);
        y.change(0, 8, 3);
        check.due("SLOW in an even HOUR", y.of(0, 9), 1);
        y.hours(1);
        y.change(0, 8, 3);
        check.due("SLOW in HOUR 3", y.of(0, 9), 3);
    }

    private static void dueWants(WarmWalls x, String when, int... wants) {
        for (int room = 0; room < wants.length; room++) {
            check.due("wants of kind " + room + ", " + when, x.of(room, 9), wants[room]);
        }
    }

    private static void change() {
        check.promise("4");
        WarmWalls x = Check.house(0, 0, 0);
        int[] was = {0, 100, 50, 10, 2, 0, 0, 1, 1};
        int[] least = {0, 0, 0, 1, 0, 0, 0, 0, 0};
        int[] most = {6, 300, 999, 20, 7, 1, 3, 24, 3};
        for (int what = 0; what < 9; what++) {
            check.due("too little of " + what, x.change(1, what, least[what] - 1), Check.BEYOND);
            check.due("too much of " + what, x.change(1, what, most[what] + 1), Check.BEYOND);
            check.due("as it was " + what, x.of(1, what), was[what]);
            check.due("least of " + what, x.change(1, what, least[what]), was[what]);
            check.due("it is that " + what, x.of(1, what), least[what]);
            check.due("most of " + what, x.change(1, what, most[what]), least[what]);
            check.due("it is that " + what, x.of(1, what), most[what]);
            check.due("no such room", x.change(3, what, least[what]), Check.BEYOND);
            check.due("the others stay", x.of(0, what), what == 4 ? 1 : was[what]);
        }
        check.due("its own", x.change(1, 4, 1), Check.BEYOND);
        check.due("its own", x.change(0, 4, 0), Check.BEYOND);
        check.due("one that isn't there", x.change(0, 4, 6), 1);
        check.due("what 9", x.change(1, 9, 1), Check.BEYOND);
        check.due("what -1", x.change(1, -1, 1), Check.BEYOND);
        check.due("room -1", x.change(-1, 1, 1), Check.BEYOND);
        check.due("status", x.status(0), 32);
    }

    private static void out() {
        check.promise("5");
        WarmWalls x = new WarmWalls();
        check.due("out(101)", x.out(101), Check.BEYOND);
        check.due("out(-1)", x.out(-1), Check.BEYOND);
        check.due("out(0)", x.out(0), 20);
        check.due("out(100)", x.out(100), 0);
        check.due("now", x.now(4), 100);
    }

    private static void heaters() {
        check.promise("6");
        WarmWalls x = Check.house(0, 0, 0, 0);
        check.due("of 0", x.heaters(0), 0);
        check.due("of 1", x.heaters(1), 1);
        x.change(3, 4, 1);
        x.change(2, 4, 1);
        check.due("of 1 by three", x.heaters(1), 13);
        check.due("of 3", x.heaters(3), 0);
        check.due("4 is not there", x.heaters(4), Check.BEYOND);
        check.due("-1", x.heaters(-1), Check.BEYOND);
    }

    private static void reach() {
        check.promise("7");
        WarmWalls x = Check.house(0, 0, 0, 0);
        check.due("along the row", x.reach(0), 14);
        check.due("from the last but one", x.reach(2), 8);
        check.due("from the last", x.reach(3), 0);
        x.change(3, 4, 1);
        check.due("not itself", x.reach(0), 14);
        check.due("round and back to itself", x.reach(1), 14);
        x.change(3, 4, 0);
        check.due("all", x.reach(2), 15);
        x.change(1, 4, 0);
        check.due("a pair", x.reach(0), 3);
        check.due("no such room", x.reach(4), Check.BEYOND);
        check.due("no such room", x.reach(-1), Check.BEYOND);
    }

    private static void move() {
        check.promise("8");
        WarmWalls x = Check.house(Check.MISER, Check.SAINTLY, Check.JUST);
        int[] mine = {3, 90, 40, 9, 5, 1, 2, 6, 3};
        int[] yours = {4, 110, 60, 11, 6, 0, 1, 7, 2};
        for (int what = 0; what < 9; what++) {
            x.change(0, what, mine[what]);
            x.change(2, what, yours[what]);
        }
        check.due("move", x.move(0, 2), 1);
        for (int what = 0; what < 9; what++) {
            boolean goes = what == 0 || what == 5 || what == 8;
            check.due("first " + what, x.of(0, what), goes ? yours[what] : mine[what]);
            check.due("other " + what, x.of(2, what), goes ? mine[what] : yours[what]);
        }
        check.due("the third stays", x.of(1, 0), Check.SAINTLY);
        check.due("with itself", x.move(1, 1), 1);
        check.due("nothing changed", x.of(1, 0), Check.SAINTLY);
        check.due("no such room", x.move(0, 3), Check.BEYOND);
        check.due("no such room", x.move(3, 0), Check.BEYOND);
        check.due("no such room", x.move(-1, 0), Check.BEYOND);
        check.due("nothing changed", x.of(0, 0), Check.SAINTLY);
    }
}
