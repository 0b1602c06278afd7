/** Promises 33 to 35: feed, wipe, text. */
public final class TextsTest {
    private static final Check check = new Check();

    public static void main(String[] args) {
        feed();
        wipe();
        text();
        items();
        faults();
        aNinthRoom();
        check.end();
    }

    private static void feed() {
        check.promise("33");
        WarmWalls x = new WarmWalls();
        check.due("n 0", x.feed(1, 0), Check.BEYOND);
        check.due("n 5", x.feed(1, 5), Check.BEYOND);
        check.due("n -1", x.feed(1, -1), Check.BEYOND);
        check.due("nothing", x.count(5), 0);
        check.due("two lowest bytes of three: ev", x.feed(0x7a6576, 2), 2);
        check.due("en", x.feed(0x656e, 2), 4);
        check.due("a text", x.text(), 1);
        check.due("four bytes: even", x.feed(0x6576656e, 4), 4);
        check.due("a text", x.text(), 1);
        for (int i = 1; i <= 29; i++) {
            check.due("four bytes", x.feed(0x20202020, 4), 4 * i);
        }
        check.due("to 119", x.feed(0x202020, 3), 119);
        check.due("2 are too many", x.feed(0x2020, 2), Check.FULL);
        check.due("none came", x.count(5), 119);
        check.due("to 120", x.feed(32, 1), 120);
        check.due("full", x.feed(32, 1), Check.FULL);
        check.due("n is asked first", x.feed(32, 5), Check.BEYOND);
        check.due("too early", x.text(), -121);
        check.due("a byte above 127", x.feed(-1, 1), 1);
        check.due("begins no token", x.text(), -1);
    }

    private static void wipe() {
        check.promise("34");
        WarmWalls x = new WarmWalls();
        check.due("nothing", x.wipe(), 0);
        Check.feed(x, "even;");
        check.due("had", x.wipe(), 5);
        check.due("nothing", x.wipe(), 0);
        check.due("bytes", x.count(5), 0);
        Check.feed(x, "just");
        check.due("a new text", x.text(), 1);
        check.due("kind", x.of(0, 0), Check.JUST);
    }

    private static void text() {
        check.promise("35");
        WarmWalls x = new WarmWalls();
        String all = "even warm 150 coal 999 wall 20 heats 7 away;kindly;just coal 0;miser heats 0;out 7;damper 2 3;saintly";
        check.due("items", Check.text(x, all), 7);
        check.due("the tape is empty", x.count(5), 0);
        int[][] due = {
            {0, 150, 999, 20, 7, 1, 0, 1, 1}, {1, 100, 50, 10, 2, 0, 0, 1, 1}, {2, 100, 0, 10, 3, 0, 3, 1, 1},
            {3, 100, 50, 10, 0, 0, 0, 1, 1}, {4, 100, 50, 10, 5, 0, 0, 1, 1}};
        for (int room = 0; room < due.length; room++) {
            for (int what = 0; what < 9; what++) {
                check.due("of " + room + " " + what, x.of(room, what), due[room][what]);
            }
        }
        check.due("rooms", x.count(1), 5);
        check.due("out", x.now(4), 7);
        check.due("behind those that were there", Check.text(x, "slow;spiteful;damper 4 1"), 3);
        check.due("slow", x.of(5, 0), Check.SLOW);
        check.due("spiteful", x.of(6, 0), Check.SPITEFUL);
        check.due("damper of one that was there", x.of(4, 6), 1);
        check.due("item by item", Check.text(x, "damper 0 3;damper 0 2;out 5;out 6"), 4);
        check.due("the last", x.of(0, 6), 2);
        check.due("the last", x.now(4), 6);
        check.due("nothing else changes", x.count(0), 0);
        check.due("no finding", x.status(-1), 0);
    }

    private static void items() {
        check.promise("35 (TOKENS)");
        check.due("blanks", Check.text(new WarmWalls(), "  even  warm  3  ;  out 5  "), 2);
        check.due("no blanks", Check.text(new WarmWalls(), "even warm3coal4wall5heats6away;out5;damper0 3"), 3);
        check.due("noughts ahead", Check.text(new WarmWalls(), "even warm 0000000300 heats 00000007;damper 000 003"), 2);
        check.due("parts may be left out", Check.text(new WarmWalls(), "even wall 1 away;just warm 0 heats 2;slow away"), 3);
        check.due("least", Check.text(new WarmWalls(), "just;just warm 0 coal 0 wall 1 heats 0;out 0;damper 0 0"), 4);
        check.due("most", Check.text(new WarmWalls(), "just warm 300 coal 999 wall 20 heats 7;out 100;damper 0 3"), 3);
        StringBuilder many = new StringBuilder("out 1");
        for (int i = 0; i < 19; i++) {
            many.append(";out 1");
        }
        check.due("as many as there is place for", Check.text(new WarmWalls(), many.toString()), 20);
    }

    private static void faults() {
        check.promise("35 (FAULT)");
        due("", 0);
        due("   ", 3);
        due(";", 0);
        due("7", 0);
        due("Even", 0);
        due("evens", 0);
        due("eve", 0);
        due("xven", 0);
        due("evenz", 0);
        due("evena", 0);
        due("even`", 4);
        due("even{", 4);
        due("even/", 4);
        due("even:", 4);
        due("even warm 3/", 11);
        due("even warm 3:", 11);
        due("even\0", 4);
        due("\0", 0);
        due("warm 3", 0);
        due("evenjust", 0);
        due("even just", 5);
        due("even; ", 6);
        due("even;;just", 5);
        due("even 3", 5);
        due("even3", 4);
        due("even#", 4);
        due("even\tjust", 4);
        due("even\n", 4);
        due("even;\u00e9", 5);
        due("even warm", 9);
        due("even warm ", 10);
        due("even warm;", 9);
        due("even warm 301", 10);
        due("even warm 10000", 10);
        due("even warm 99999999999", 10);
        due("even warm 4294967296", 10);
        due("even warm -1", 10);
        due("even warm coal", 10);
        due("even warm 3 warm 3", 12);
        due("even warm 3 4", 12);
        due("even coal 1000", 10);
        due("even coal 3 warm 3", 12);
        due("even wall 0", 10);
        due("even wall 21", 10);
        due("even wall 3 coal 3", 12);
        due("even heats 8", 11);
        due("even heats 0", 11);
        due("even;even heats 1", 16);
        due("even heats 1 wall 3", 13);
        due("even away away", 10);
        due("even away warm 3", 10);
        due("even away 3", 10);
        due("out", 3);
        due("out 101", 4);
        due("out ;", 4);
        due("out 3 3", 6);
        due("out 3;", 6);
        due("damper", 6);
        due("damper 0 1", 7);
        due("even;damper 1 0", 12);
        due("even;damper 0", 13);
        due("even;damper 0 4", 14);
        due("even;damper 0;1", 13);
        due("even;damper away", 12);
        due("damper 0 1;even", 7);
        due("even;damper 0 1 away", 16);
        WarmWalls x = Check.house(Check.JUST);
        check.due("a fault at last", Check.text(x, "out 5;even;damper 0 3;damper 1 2;outs"), -34);
        check.due("nothing changes: rooms", x.count(1), 1);
        check.due("nothing changes: out", x.now(4), 20);
        check.due("nothing changes: damper", x.of(0, 6), 0);
        check.due("but the tape is empty", x.count(5), 0);
        check.due("and it is no finding", x.status(-1), 0);
        check.due("nothing is left of it", Check.text(x, "even;damper 1 1"), 2);
    }

    private static void due(String text, int fault) {
        WarmWalls x = new WarmWalls();
        check.due("\"" + text + "\"", Check.text(x, text), -1 - fault);
        check.due("no rooms behind \"" + text + "\"", x.count(1), 0);
    }

    private static void aNinthRoom() {
        check.promise("35 (a 9th ROOM)");
        WarmWalls x = Check.house(0, 0, 0, 0, 0, 0);
        check.due("its own word", Check.text(x, "just; just; just warm 999"), -13);
        check.due("rooms", x.count(1), 6);
        check.due("eight are fine", Check.text(x, "just;just;damper 7 1"), 3);
        check.due("not one more", Check.text(x, "out 3;even"), -7);
        check.due("no room is needed", Check.text(x, "out 3;damper 0 1"), 2);
        check.due("a damper of room 8", Check.text(x, "damper 8 1"), -8);
        check.due("the last heats the first", x.of(7, 4), 0);
    }
}
