/** Promises 36 to 42: hold, as, sheet, write, copy, load, judge. */
public final class SpotsSheetsTest {
    private static final Check check = new Check();

    public static void main(String[] args) {
        hold();
        as();
        spotsStayAtTheirRoom();
        sheet();
        write();
        copy();
        load();
        judge();
        check.end();
    }

    private static void hold() {
        check.promise("36");
        WarmWalls x = Check.house(0, 0);
        check.due("spot 10", x.hold(10, 0), Check.BEYOND);
        check.due("spot -1", x.hold(-1, 0), Check.BEYOND);
        check.due("room 2", x.hold(0, 2), Check.BEYOND);
        check.due("room -2", x.hold(0, -2), Check.BEYOND);
        check.due("none holds", x.count(7), 0);
        check.due("nothing", x.hold(9, -1), 1);
        check.due("none holds", x.count(7), 0);
        check.due("hold", x.hold(0, 1), 1);
        check.due("hold", x.hold(9, 0), 1);
        check.due("the same one in another spot", x.hold(5, 0), 1);
        check.due("three hold", x.count(7), 3);
        check.due("as", x.as(9, 0), 0);
        check.due("hold", x.hold(9, 1), 1);
        check.due("as", x.as(9, 0), 1);
        check.due("nothing", x.hold(9, -1), 1);
        check.due("as", x.as(9, 0), Check.MISSING);
        check.due("two hold", x.count(7), 2);
    }

    private static void as() {
        check.promise("37");
        // For each kind the kinds as which it counts: itself and those above it.
        int[] counts = {1, 1 | 2, 1 | 4, 1 | 4 | 8, 1 | 2 | 16, 1 | 32, 1 | 4 | 64};
        WarmWalls x = Check.house(0, 1, 2, 3, 4, 5, 6);
        for (int kind = 0; kind < 7; kind++) {
            x.hold(kind, kind);
            for (int asKind = 0; asKind < 7; asKind++) {
                int due = (counts[kind] >> asKind & 1) == 1 ? kind : Check.KIND;
                check.due("kind " + kind + " as " + asKind, x.as(kind, asKind), due);
            }
        }
        check.due("kind 7", x.as(0, 7), Check.BEYOND);
        check.due("kind -1", x.as(0, -1), Check.BEYOND);
        check.due("spot 10", x.as(10, 0), Check.BEYOND);
        check.due("spot -1", x.as(-1, 0), Check.BEYOND);
        check.due("holds nothing", x.as(9, 3), Check.MISSING);
        check.due("the kind is asked first", x.as(9, 7), Check.BEYOND);
        check.due("status", x.status(2), 33);
    }

    private static void spotsStayAtTheirRoom() {
        check.promise("8, 36, 37 (KIND, AWAY, GAVE go along, no SPOT)");
        WarmWalls x = Check.house(Check.MISER, Check.SAINTLY, Check.JUST);
        x.hold(0, 0);
        x.hold(1, 1);
        x.hold(2, 2);
        x.change(0, 0, Check.SLOW);
        check.due("it has changed its kind", x.as(0, Check.MISER), Check.KIND);
        check.due("it has changed its kind", x.as(0, Check.SLOW), 0);
        x.move(0, 1);
        check.due("a saintly one lives in 0 now", x.as(0, Check.SAINTLY), 0);
        check.due("the slow one has gone", x.as(0, Check.SLOW), Check.KIND);
        check.due("a slow one lives in 1 now", x.as(1, Check.SLOW), 1);
        check.due("the saintly one has gone", x.as(1, Check.KINDLY), Check.KIND);
        check.due("not moved", x.as(2, Check.JUST), 2);
        check.due("all hold", x.count(7), 3);
        x.move(1, 1);
        check.due("with itself", x.as(1, Check.SLOW), 1);
        check.due("two spots at a room", x.hold(9, 1), 1);
        x.move(2, 1);
        check.due("both stay", x.as(1, Check.JUST), 1);
        check.due("both stay", x.as(9, Check.JUST), 1);
        check.due("the slow one lives in 2 now", x.as(2, Check.SLOW), 2);
        x.image();
        x.move(1, 2);
        x.undo();
        check.due("as it was kept", x.as(1, Check.JUST), 1);
    }

    private static void sheet() {
        check.promise("38");
        WarmWalls x = new WarmWalls();
        check.due("sheet 4", x.sheet(4, 8, 3), Check.BEYOND);
        check.due("sheet -1", x.sheet(-1, 8, 3), Check.BEYOND);
        check.due("sheet 4 is asked first", x.sheet(4, 8, -3), Check.BEYOND);
        int[] otherBits = {1, 7, 9, 24, 64, -8};
        for (int bits : otherBits) {
            check.due("bits " + bits, x.sheet(0, bits, -1), Check.BEYOND);
        }
        check.due("n -1", x.sheet(0, 8, -1), Check.SIZE);
        check.due("n -1, bits 0", x.sheet(0, 0, -1), Check.SIZE);
        check.due("n", x.sheet(0, 32, Integer.MIN_VALUE), Check.SIZE);
        check.due("n 41", x.sheet(0, 16, 41), Check.BEYOND);
        check.due("n 41, bits 0", x.sheet(0, 0, 41), Check.BEYOND);
        check.due("still missing", x.write(0, 0, 1), Check.MISSING);
        check.due("n 40", x.sheet(0, 16, 40), 40);
        check.due("the last number", x.write(0, 39, 1), 1);
        check.due("n 0", x.sheet(3, 8, 0), 0);
        check.due("of no numbers, but there", x.write(3, 0, 1), Check.BEYOND);
        check.due("missing", x.sheet(0, 0, 40), 0);
        check.due("missing", x.write(0, 0, 1), Check.MISSING);
        x.room(0);
        x.sheet(1, 32, 1);
        x.write(1, 0, 77);
        check.due("a finding changes nothing", x.sheet(1, 8, 41), Check.BEYOND);
        check.due("still a number", x.load(1), 1);
        check.due("coal", x.of(0, 2), 77);
        check.due("anew", x.sheet(1, 32, 1), 1);
        x.load(1);
        check.due("all 0", x.of(0, 2), 0);
    }

    private static void write() {
        check.promise("39");
        WarmWalls x = Check.house(0);
        check.due("missing", x.write(2, 0, 5), Check.MISSING);
        check.due("sheet 4", x.write(4, 0, 5), Check.BEYOND);
        check.due("sheet -1", x.write(-1, 0, 5), Check.BEYOND);
        x.sheet(2, 8, 2);
        check.due("number 2", x.write(2, 2, 5), Check.BEYOND);
        check.due("number -1", x.write(2, -1, 5), Check.BEYOND);
        check.due("write", x.write(2, 1, 5), 1);
        dueNumber("8 bits", 8, 127, 127);
        dueNumber("8 bits: 0", 8, 256, 0);
        dueNumber("8 bits: 44", 8, 300, 44);
        dueNumber("8 bits: -128 is no coal", 8, 128, -1);
        dueNumber("8 bits: -1 is no coal", 8, 255, -1);
        dueNumber("16 bits", 16, 999, 999);
        dueNumber("16 bits: 1", 16, 65537, 1);
        dueNumber("16 bits: -1 is no coal", 16, 65535, -1);
        dueNumber("32 bits", 32, 999, 999);
        dueNumber("32 bits: 65537 is no coal", 32, 65537, -1);
    }

    /** Writes a number and sees by load() what stands there; -1 where it is no COAL. */
    private static void dueNumber(String call, int bits, int written, int due) {
        WarmWalls x = Check.house(0);
        x.sheet(0, bits, 1);
        x.write(0, 0, written);
        check.due(call, x.load(0) == 1 ? x.of(0, 2) : -1, due);
    }

    private static void copy() {
        check.promise("40");
        WarmWalls x = Check.house(0, 0, 0, 0, 0);
        fill(x, 0, 16, 1, 2, 3, 4, 5);
        fill(x, 1, 16, 11, 12, 13, 14, 15);
        check.due("to another", x.copy(0, 1, 1, 2, 3), 3);
        dueCoal(x, 1, 11, 12, 2, 3, 4);
        dueCoal(x, 0, 1, 2, 3, 4, 5);
        check.due("onto itself, up", x.copy(0, 0, 0, 1, 4), 4);
        dueCoal(x, 0, 1, 1, 2, 3, 4);
        check.due("onto itself, down", x.copy(0, 2, 0, 0, 3), 3);
        dueCoal(x, 0, 2, 3, 4, 3, 4);
        check.due("none, from the end", x.copy(0, 5, 1, 5, 0), 0);
        check.due("none, from behind the end", x.copy(0, 6, 1, 5, 0), Check.BEYOND);
        check.due("none, to behind the end", x.copy(0, 5, 1, 6, 0), Check.BEYOND);
        check.due("too many from", x.copy(0, 3, 1, 0, 3), Check.BEYOND);
        check.due("too many to", x.copy(0, 0, 1, 3, 3), Check.BEYOND);
        check.due("from -1", x.copy(0, -1, 1, 0, 1), Check.BEYOND);
        check.due("to -1", x.copy(0, 0, 1, -1, 1), Check.BEYOND);
        check.due("n -1", x.copy(0, 1, 1, 1, -1), Check.BEYOND);
        check.due("n", x.copy(0, 1, 1, 1, Integer.MAX_VALUE), Check.BEYOND);
        check.due("from", x.copy(0, Integer.MAX_VALUE, 1, 1, Integer.MAX_VALUE), Check.BEYOND);
        check.due("n", x.copy(0, 1, 1, 1, Integer.MIN_VALUE), Check.BEYOND);
        dueCoal(x, 1, 11, 12, 2, 3, 4);
        x.sheet(3, 8, 5);
        check.due("of other bits", x.copy(0, 0, 3, 0, 1), Check.KIND);
        check.due("of other bits is asked first", x.copy(3, -1, 0, 0, 1), Check.KIND);
        check.due("missing", x.copy(2, 0, 3, 0, 1), Check.MISSING);
        check.due("missing", x.copy(3, 0, 2, 0, 1), Check.MISSING);
        check.due("no such sheet", x.copy(4, 0, 2, 0, 1), Check.BEYOND);
        check.due("no such sheet is asked first", x.copy(2, 0, 4, 0, 1), Check.BEYOND);
        check.due("no such sheet", x.copy(-1, 0, 0, 0, 1), Check.BEYOND);
        check.due("no such sheet", x.copy(0, 0, -1, 0, 1), Check.BEYOND);
    }

    private static void fill(WarmWalls x, int s, int bits, int... numbers) {
        x.sheet(s, bits, numbers.length);
        for (int i = 0; i < numbers.length; i++) {
            x.write(s, i, numbers[i]);
        }
    }

    private static void dueCoal(WarmWalls x, int s, int... coal) {
        check.due("load " + s, x.load(s), coal.length);
        for (int room = 0; room < coal.length; room++) {
            check.due("number " + room + " of sheet " + s, x.of(room, 2), coal[room]);
        }
    }

    private static void load() {
        check.promise("41");
        WarmWalls x = Check.house(0, 0, 0);
        check.due("missing", x.load(0), Check.MISSING);
        check.due("no such sheet", x.load(4), Check.BEYOND);
        check.due("no such sheet", x.load(-1), Check.BEYOND);
        fill(x, 0, 32, 0, 999, 7, 8);
        check.due("as many as there are rooms", x.load(0), 3);
        check.due("coal", x.of(0, 2), 0);
        check.due("coal", x.of(1, 2), 999);
        check.due("coal", x.of(2, 2), 7);
        fill(x, 0, 32, 5, 1000, 6);
        check.due("ends at 1000", x.load(0), 1);
        check.due("coal", x.of(0, 2), 5);
        check.due("as it was", x.of(1, 2), 999);
        check.due("as it was", x.of(2, 2), 7);
        fill(x, 0, 32, 9, 9, -1);
        check.due("ends at -1", x.load(0), 2);
        check.due("as it was", x.of(2, 2), 7);
        x.sheet(0, 32, 0);
        check.due("of no numbers", x.load(0), 0);
        fill(x, 0, 32, 4);
        check.due("of one number", x.load(0), 1);
        check.due("as it was", x.of(1, 2), 9);
    }

    private static void judge() {
        check.promise("42");
        WarmWalls x = Check.house(0, 0);
        fill(x, 1, 8, 92, 85, 79, 74);
        check.due("all are", x.judge(1, 0), 0);
        check.due("of another room", x.judge(1, 1), 1);
        x.write(1, 3, 75);
        check.due("the last isn't", x.judge(1, 0), 4);
        x.write(1, 1, 86);
        check.due("the first that isn't", x.judge(1, 0), 2);
        x.sheet(1, 16, 0);
        check.due("of no numbers", x.judge(1, 0), 0);
        x.change(1, 1, 300);
        x.change(1, 3, 1);
        // 315 is held at 300, and all above 20 is lost; then 35 - 15.
        fill(x, 2, 16, 20, 20, 20);
        check.due("all are", x.judge(2, 1), 0);
        check.due("missing", x.judge(0, 1), Check.MISSING);
        check.due("missing is asked first", x.judge(0, 2), Check.MISSING);
        check.due("no such sheet", x.judge(4, 0), Check.BEYOND);
        check.due("no such sheet", x.judge(-1, 0), Check.BEYOND);
        check.due("no such room", x.judge(2, 2), Check.BEYOND);
        check.due("no such room", x.judge(2, -1), Check.BEYOND);
        check.due("nothing changes", x.now(0), 0);
        check.due("nothing changes", x.of(1, 1), 300);
        WarmWalls late = new WarmWalls();
        Check.passTo(late, 9997);
        late.sheet(0, 8, 3);
        check.due("no such room is asked first", late.judge(0, 0), Check.BEYOND);
        late.room(0);
        check.due("the hour, though the first isn't", late.judge(0, 0), Check.STATE);
        fill(late, 0, 8, 92, 85);
        check.due("to the last hour", late.judge(0, 0), 0);
    }
}
