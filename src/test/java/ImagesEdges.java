/** Promises 43 to 47: image, undo, tear, count, status. */
final class ImagesEdges {
    private final Edges edges;

    ImagesEdges(Edges edges) {
        this.edges = edges;
    }

    void all() {
        image();
        imageKeepsNot();
        undo();
        undoNone();
        tear();
        count();
        countBeyond();
        status();
        statusBeyond();
    }

    private void image() {
        edges.promise(43, "All but THE TAPE and SHEETS is kept: 1.");
        // Without ROOMS; then with eight, each number of each of them.
        edges.house().due("image", 1).does("room 0", "hours 1", "out 3", "seed 9", "hold 0 0").due("undo", 0).due("count 1", 0)
            .due("now 4", 20).due("count 6", 1).due("count 7", 0).due("room 5", 0).due("of 0 1", 100).due("of 0 2", 50);
        Story s = edges.house(6, 5, 4, 3, 2, 1, 0, 6);
        int[] mine = {-1, 1, 2, 3, -1, 1, 1, 4, 2};
        for (int what = 1; what < 9; what++) {
            for (int room = 0; room < 8 && what != 4; room++) {
                s.does("change " + room + " " + what + " " + mine[what]);
            }
        }
        s.does("change 0 4 7", "hours 2", "out 7", "seed -7", "hold 9 7", "hold 0 0").due("image", 1);
        s.does("change 0 4 1", "move 0 7", "hours 3", "out 8", "seed 8", "hold 9 -1", "hold 0 5", "change 7 6 3");
        s.due("undo", 2);
        for (int room = 0; room < 8; room++) {
            s.due("of " + room + " 0", room < 7 ? 6 - room : 6).due("of " + room + " 3", 3).due("of " + room + " 2", 2)
                .due("of " + room + " 5", 1).due("of " + room + " 6", 1).due("of " + room + " 8", 0).due("of " + room + " 7", 0)
                .due("of " + room + " 1", 1);
        }
        s.due("of 0 4", 7).due("now 4", 7).due("count 6", -7).due("as 9 0", 7).due("as 0 0", 0).due("count 7", 2);
    }

    private void imageKeepsNot() {
        edges.promise(43, "All but THE TAPE and SHEETS");
        Story s = edges.house(0).does("sheet 0 16 2", "write 0 0 5", "sheet 1 8 1").feeds("out").due("image", 1);
        s.feeds("3").does("write 0 0 6", "sheet 1 0 0", "sheet 2 32 1").due("undo", 0).due("count 5", 4).due("load 0", 1);
        s.due("of 0 2", 6).due("load 1", Check.MISSING).due("load 2", 1).due("text", 1).due("now 4", 3).due("undo", 0)
            .due("now 4", 20).due("count 5", 0);
    }

    private void undo() {
        edges.promise(44, "It becomes what was kept latest (which stays): HOUR.");
        Story s = edges.house(0).does("image", "hours 1", "image", "hours 5").due("undo", 1).due("count 0", 1);
        s.does("hours 100").due("undo", 1).due("undo", 1).due("count 0", 1);
        edges.late(9899, 0).does("hours 100", "image").due("undo", 9999);
        edges.late(9900, 0).does("image", "hours 99").refused("hours 1", Check.STATE).due("undo", 9900).due("hours 1", 1);
        // Kept is how it was: what comes later to the same ROOMS doesn't reach it.
        edges.house(0).does("image", "change 0 1 7").due("undo", 0).due("of 0 1", 100).does("change 0 1 8").due("undo", 0)
            .due("of 0 1", 100);
    }

    private void undoNone() {
        edges.promise(44, "NONE: nothing is kept.");
        edges.house().refused("undo", Check.NONE).does("image").due("undo", 0).does("tear").refused("undo", Check.NONE);
        edges.house(0).does("hours 1", "hold 0 0").refused("undo", Check.NONE).due("count 0", 1);
    }

    private void tear() {
        edges.promise(45, "Nothing is kept: 1 if something was, else 0.");
        edges.house().due("tear", 0).due("tear", 0).due("image", 1).due("image", 1).due("tear", 1).due("tear", 0)
            .due("status -1", 0).due("image", 1).due("undo", 0).due("tear", 1).refused("undo", Check.NONE);
        edges.house(0).does("hours 3", "image", "hours 1").due("tear", 1).due("count 0", 4).due("of 0 2", 46);
    }

    private void count() {
        edges.promise(46, "0 HOUR, 1 ROOMS, 2 COAL of all, 3 WARMTH of all, 4 those AWAY (how many), 5 bytes of THE TAPE, 6 z, "
            + "7 SPOTS that hold something.");
        int[] first = {0, 0, 0, 0, 0, 0, 1, 0};
        Story none = edges.house();
        Story most = edges.late(9999, 0, 0, 0, 0, 0, 0, 0, 0);
        most.all(1, 300, 300, 300, 300, 300, 300, 300, 300).all(2, 999, 999, 999, 999, 999, 999, 999, 999);
        most.all(5, 1, 1, 1, 1, 1, 1, 1, 1).does("seed 2147483647");
        for (int i = 0; i < 30; i++) {
            most.does("feed 0 4", "hold " + i % 10 + " " + i % 8);
        }
        int[] greatest = {9999, 8, 7992, 2400, 8, 120, Integer.MAX_VALUE, 10};
        for (int what = 0; what < 8; what++) {
            none.due("count " + what, first[what]);
            most.due("count " + what, greatest[what]);
        }
        // The last of each.
        edges.house(0, 0, 0, 0, 0, 0, 0, 0).does("change 7 5 1", "change 7 1 0", "change 7 2 0", "hold 9 7").due("count 4", 1)
            .due("count 3", 700).due("count 2", 350).due("count 7", 1);
    }

    private void countBeyond() {
        edges.promise(46, "BEYOND: another what.");
        edges.house().beyond("count #", 0, 7);
        edges.house(0, 0, 0, 0, 0, 0, 0, 0).beyond("count #", 0, 7).due("status 0", 4);
    }

    private void status() {
        edges.promise(47, "How many acts answered a finding ever (undo() takes none back): which -1: all, 0 to 6: BEYOND to SIZE.");
        // At the last HOUR, with eight ROOMS and GOT that no set explains, there is a call for each finding.
        Story s = edges.late(9999, 0, 0, 0, 0, 0, 0, 0, 0).does("hold 0 0", "change 0 7 24", "image");
        String[] calls = {"out 101", "room 0", "as 0 1", "surely 0", "hours 1", "load 0", "sheet 0 0 -1"};
        int[] findings = {Check.BEYOND, Check.FULL, Check.KIND, Check.NONE, Check.STATE, Check.MISSING, Check.SIZE};
        for (int which = 0; which < 7; which++) {
            s.due("status " + which, 0);
            for (int times = 1; times <= 2; times++) {
                s.due(calls[which], findings[which]).due("status " + which, times).due("status -1", 2 * which + times);
            }
        }
        s.due("undo", 9999).due("status -1", 14);
        for (int which = 0; which < 7; which++) {
            s.due("status " + which, 2);
        }
        s.does("tear").due("undo", Check.NONE).due("status 3", 3).due("status -1", 15);
    }

    private void statusBeyond() {
        edges.promise(47, "BEYOND (counted from then on): another one.");
        edges.house().due("status 7", Check.BEYOND).due("status 0", 1).due("status -2", Check.BEYOND).due("status 0", 2)
            .due("status -1", 2).beyond("status #", -1, 6).due("status 0", 6).due("status -1", 6);
    }
}
