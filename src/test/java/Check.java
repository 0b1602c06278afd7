/** Counts the answers of one test program and tells those that are not as due. */
final class Check {
    static final int BEYOND = -1000001;
    static final int FULL = -1000002;
    static final int KIND = -1000003;
    static final int NONE = -1000004;
    static final int STATE = -1000005;
    static final int MISSING = -1000006;
    static final int SIZE = -1000007;

    static final int EVEN = 0;
    static final int KINDLY = 1;
    static final int JUST = 2;
    static final int MISER = 3;
    static final int SAINTLY = 4;
    static final int SLOW = 5;
    static final int SPITEFUL = 6;

    private int right;
    private int wrong;
    private String promise = "";

    void promise(String name) {
        promise = name;
    }

    void due(String call, long got, long want) {
        if (got == want) {
            right++;
        } else {
            wrong++;
            System.out.println("promise " + promise + ": " + call + " answered " + got + ", due is " + want);
        }
    }

    void end() {
        System.out.println(right + " answers as due, " + wrong + " not");
        if (wrong != 0 || right == 0) {
            System.exit(1);
        }
    }

    /** A house with one room for each kind told. */
    static WarmWalls house(int... kinds) {
        WarmWalls x = new WarmWalls();
        for (int kind : kinds) {
            x.room(kind);
        }
        return x;
    }

    /** change() for one number of all ROOMS: what, then the number of ROOM 0, 1, .. */
    static void changeAll(WarmWalls x, int what, int... numbers) {
        for (int room = 0; room < numbers.length; room++) {
            x.change(room, what, numbers[room]);
        }
    }

    /** Puts the hour on as near to 9999 as is asked: without ROOMS it goes by fast. */
    static void passTo(WarmWalls x, int hour) {
        while (x.count(0) < hour) {
            x.hours(Math.min(100, hour - x.count(0)));
        }
    }

    static void feed(WarmWalls x, String text) {
        for (int i = 0; i < text.length(); i++) {
            x.feed(text.charAt(i), 1);
        }
    }

    static int text(WarmWalls x, String text) {
        x.wipe();
        feed(x, text);
        return x.text();
    }
}
