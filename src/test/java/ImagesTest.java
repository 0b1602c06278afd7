/** Promises 43 to 47: image, undo, tear, count, status. */
public final class ImagesTest {
    private static final Check check = new Check();

    public static void main(String[] args) {
        imageAndUndo();
        whatIsNotKept();
        tear();
        count();
        status();
        check.end();
    }

    private static void imageAndUndo() {
        check.promise("43, 44");
        WarmWalls x = Check.house(Check.MISER, Check.JUST);
        x.hours(3);
        x.seed(77);
        x.out(11);
        x.hold(4, 1);
        int[] rowsOf1 = {2, 110, 42, 9, 5, 1, 2, 4, 3};
        for (int what = 0; what < 9; what++) {
            x.change(1, what, rowsOf1[what]);
        }
        check.due("image", x.image(), 1);
        x.move(0, 1);
        x.hours(30);
        x.travel(2);
        x.out(50);
        x.hold(4, -1);
        x.hold(5, 0);
        x.room(Check.SLOW);
        Check.text(x, "even;damper 1 3");
        x.change(1, 4, 0);
        x.change(1, 3, 3);
        check.due("undo", x.undo(), 3);
        for (int what = 0; what < 9; what++) {
            check.due("of 1 " + what, x.of(1, what), rowsOf1[what]);
        }
        check.due("kind", x.of(0, 0), Check.MISER);
        check.due("rooms", x.count(1), 2);
        check.due("hour", x.count(0), 3);
        check.due("z", x.count(6), 77);
        check.due("out", x.now(4), 11);
        check.due("spots", x.count(7), 1);
        check.due("spot", x.as(4, Check.JUST), 1);
        check.due("away", x.count(4), 1);
        x.hours(5);
        check.due("what was kept stays", x.undo(), 3);
        x.hours(5);
        check.due("the latest", x.image(), 1);
        x.hours(5);
        check.due("the latest", x.undo(), 8);
        check.due("the latest stays", x.undo(), 8);
        check.due("nothing is kept", new WarmWalls().undo(), Check.NONE);
    }

    private static void whatIsNotKept() {
        check.promise("43, 44 (all but THE TAPE and SHEETS)");
        WarmWalls x = Check.house(0);
        x.sheet(0, 32, 1);
        x.sheet(1, 32, 1);
        Check.feed(x, "out");
        x.image();
        Check.feed(x, " 3");
        x.write(0, 0, 9);
        x.sheet(1, 0, 0);
        x.sheet(2, 8, 3);
        check.due("a finding", x.out(-1), Check.BEYOND);
        check.due("undo", x.undo(), 0);
        check.due("the tape", x.count(5), 5);
        check.due("a sheet", x.load(0), 1);
        check.due("a sheet's number", x.of(0, 2), 9);
        check.due("a sheet that is missing", x.write(1, 0, 1), Check.MISSING);
        check.due("a sheet that is there", x.write(2, 2, 1), 1);
        check.due("undo takes no finding back", x.status(0), 1);
        check.due("the tape", x.text(), 1);
        check.due("undo", x.undo(), 0);
        check.due("coal", x.of(0, 2), 50);
        check.due("out", x.now(4), 20);
    }

    private static void tear() {
        check.promise("45");
        WarmWalls x = new WarmWalls();
        check.due("nothing was kept", x.tear(), 0);
        x.image();
        x.image();
        check.due("something was", x.tear(), 1);
        check.due("nothing is", x.tear(), 0);
        check.due("nothing is", x.undo(), Check.NONE);
        x.room(0);
        x.image();
        check.due("kept anew", x.undo(), 0);
        check.due("rooms", x.count(1), 1);
    }

    private static void count() {
        check.promise("46");
        WarmWalls x = Check.house(0, 0, 0);
        Check.changeAll(x, 1, 1, 20, 300);
        Check.changeAll(x, 2, 5, 60, 700);
        Check.changeAll(x, 5, 1, 0, 1);
        x.seed(-5);
        Check.feed(x, "outs");
        x.hold(0, 1);
        x.hold(1, 1);
        x.hold(2, 2);
        int[] due = {0, 3, 765, 321, 2, 4, -5, 3};
        for (int what = 0; what < 8; what++) {
            check.due("count " + what, x.count(what), due[what]);
        }
        check.due("what 8", x.count(8), Check.BEYOND);
        check.due("what -1", x.count(-1), Check.BEYOND);
        x.hours(2);
        check.due("hour", x.count(0), 2);
        check.due("coal", x.count(2), 763);
        x.seed(Check.SIZE);
        int before = x.status(-1);
        check.due("z may look like a finding", x.count(6), Check.SIZE);
        check.due("but is none", x.status(-1), before);
    }

    private static void status() {
        check.promise("47");
        WarmWalls x = Check.house(0, 0, 0, 0, 0, 0, 0, 0);
        dueStatus(x, 0, 0, 0, 0, 0, 0, 0);
        x.room(0);
        dueStatus(x, 0, 1, 0, 0, 0, 0, 0);
        x.undo();
        x.undo();
        dueStatus(x, 0, 1, 0, 2, 0, 0, 0);
        x.coal(7, 61);
        x.change(7, 4, 1);
        x.hold(0, 0);
        x.as(0, 3);
        x.as(1, 0);
        x.load(0);
        x.sheet(0, 8, -1);
        dueStatus(x, 1, 1, 1, 2, 0, 2, 1);
        check.due("which 7", x.status(7), Check.BEYOND);
        check.due("counted from then on", x.status(0), 2);
        check.due("which -2", x.status(-2), Check.BEYOND);
        dueStatus(x, 3, 1, 1, 2, 0, 2, 1);
        WarmWalls none = new WarmWalls();
        none.travel(1);
        none.warmest(1);
        none.exchange(1);
        none.deal(1);
        none.missed(1);
        dueStatus(none, 0, 0, 0, 1, 4, 0, 0);
        none.image();
        none.out(101);
        none.undo();
        none.tear();
        dueStatus(none, 1, 0, 0, 1, 4, 0, 0);
    }

    private static void dueStatus(WarmWalls x, int... due) {
        int all = 0;
        for (int which = 0; which < 7; which++) {
            check.due("status " + which, x.status(which), due[which]);
            all += due[which];
        }
        check.due("status of all", x.status(-1), all);
    }
}
