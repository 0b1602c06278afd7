/** Promises 29 to 32: culprits, surely, travel, seed. */
public final class WhoItWasTest {
    private static final Check check = new Check();

    public static void main(String[] args) {
        culprits();
        surely();
        travel();
        seed();
        check.end();
    }

    private static void culprits() {
        check.promise("29");
        check.due("without rooms: the empty set", new WarmWalls().culprits(), 1);
        WarmWalls x = Check.house(0, 0, 0);
        Check.changeAll(x, 4, 1, 2, 0);
        check.due("all got 1: none was it", x.culprits(), 1);
        x.change(1, 7, 0);
        check.due("room 0", x.culprits(), 1);
        x.change(1, 7, 2);
        check.due("2 from one stove: no set", x.culprits(), 0);
        x.change(1, 7, 1);
        x.change(2, 4, 5);
        x.change(0, 7, 0);
        check.due("a stove that heats none that there is: it may have been", x.culprits(), 2);
        x.change(0, 7, 1);
        check.due("got from nowhere", x.culprits(), 0);
        WarmWalls y = threeOnRoom3();
        check.due("one of three, and room 3 or not", y.culprits(), 6);
        y.change(0, 6, 1);
        check.due("a stove with a damper brings nothing: room 0 or not, room 3 or not", y.culprits(), 4);
        y.change(1, 6, 3);
        check.due("two dampers", y.culprits(), 0);
        WarmWalls z = Check.house(0, 0, 0, 0, 0, 0, 0, 0);
        Check.changeAll(z, 6, 1, 1, 1, 1, 1, 1, 1, 1);
        Check.changeAll(z, 7, 0, 0, 0, 0, 0, 0, 0, 0);
        check.due("all damped: any set", z.culprits(), 256);
    }

    /** Rooms 0 to 2 heat room 3, which got 2; room 3 heats none that there is. */
    private static WarmWalls threeOnRoom3() {
        WarmWalls x = Check.house(0, 0, 0, 0);
        Check.changeAll(x, 4, 3, 3, 3, 7);
        Check.changeAll(x, 7, 0, 0, 0, 2);
        return x;
    }

    private static void surely() {
        check.promise("30");
        WarmWalls none = new WarmWalls();
        for (int what = 0; what < 3; what++) {
            check.due("without rooms " + what, none.surely(what), 0);
        }
        WarmWalls x = threeOnRoom3();
        check.due("in all", x.surely(0), 0);
        check.due("in any", x.surely(1), 15);
        check.due("the least", x.surely(2), 1);
        x.change(3, 7, 0);
        check.due("in all", x.surely(0), 7);
        check.due("in any", x.surely(1), 15);
        check.due("the least", x.surely(2), 7);
        x.change(3, 7, 2);
        x.change(3, 4, 0);
        x.change(0, 7, 1);
        check.due("in all", x.surely(0), 0);
        check.due("in any", x.surely(1), 7);
        check.due("the least", x.surely(2), 1);
        x.change(0, 7, 2);
        check.due("none", x.surely(0), Check.NONE);
        check.due("none", x.surely(1), Check.NONE);
        check.due("none", x.surely(2), Check.NONE);
        WarmWalls y = Check.house(0, 0);
        y.change(0, 7, 0);
        check.due("the empty set, or room 1: in all", y.surely(0), 0);
        check.due("the empty set, or room 1: in any", y.surely(1), 2);
        check.due("the empty set, or room 1: the least", y.surely(2), 0);
        check.due("what 3", x.surely(3), Check.BEYOND);
        check.due("what -1", x.surely(-1), Check.BEYOND);
    }

    private static void travel() {
        check.promise("31");
        WarmWalls x = Check.house(0, 0, 0);
        int z = 1;
        int away = 0;
        for (int n = 1; n <= 12; n++) {
            for (int i = 0; i < n; i++) {
                z = z * 1103515245 + 12345;
                away ^= 1 << (z >>> 8) % 3;
            }
            check.due("travel " + n, x.travel(n), away);
            check.due("z", x.count(6), z);
        }
        for (int room = 0; room < 3; room++) {
            check.due("away", x.of(room, 5), away >> room & 1);
        }
        // 1103527590 >>> 8 is 4310654: by 3 that leaves 2.
        WarmWalls y = Check.house(0, 0, 0);
        check.due("the first draw", y.travel(1), 4);
        y.seed(1);
        check.due("it comes back", y.travel(1), 0);
        y.seed(-1);
        // -1 makes -1103502900, whose highest 24 bits are 12466657: by 3 that leaves 1.
        check.due("a draw is never below 0", y.travel(1), 2);
        check.due("n 0", x.travel(0), Check.BEYOND);
        check.due("n 13", x.travel(13), Check.BEYOND);
        check.due("n -1", x.travel(-1), Check.BEYOND);
        check.due("nothing is drawn", x.count(6), z);
        WarmWalls none = new WarmWalls();
        check.due("no rooms", none.travel(1), Check.STATE);
        check.due("n is asked first", none.travel(0), Check.BEYOND);
        check.due("nothing is drawn", none.count(6), 1);
    }

    private static void seed() {
        check.promise("32");
        WarmWalls x = new WarmWalls();
        check.due("at first", x.seed(-1000001), 1);
        check.due("like a finding, but none", x.seed(Integer.MIN_VALUE), -1000001);
        check.due("any int", x.seed(0), Integer.MIN_VALUE);
        check.due("no finding", x.status(-1), 0);
        check.due("z", x.count(6), 0);
    }
}
