/** Promises 29 to 32: culprits, surely, travel, seed. */
final class WhoItWasEdges {
    private final Edges edges;

    WhoItWasEdges(Edges edges) {
        this.edges = edges;
    }

    void all() {
        culprits();
        culpritsDampers();
        surely();
        surelyRefused();
        travel();
        travelRefused();
        seed();
    }

    private void culprits() {
        edges.promise(29, "Cold walls: sets of ROOMS that stoked nothing in an HOUR, all others 1 shovel each (DAMPERS as they are), "
            + "such that GOT of all is as it is: how many.");
        // Without ROOMS the set of none is the one that there is.
        edges.house().due("culprits", 1);
        // One alone heats none that there is: it may have stoked or not, if it got nothing.
        edges.house(0).due("culprits", 0).does("change 0 7 0").due("culprits", 2);
        Story ring = edges.house(0, 0, 0, 0, 0, 0, 0, 0).due("culprits", 1).does("change 7 7 0").due("culprits", 1);
        ring.does("change 7 7 2").due("culprits", 0).does("change 7 7 24").due("culprits", 0);
        ring.all(7, 0, 0, 0, 0, 0, 0, 0, 0).due("culprits", 1);
        // Seven on one: any 1 of 7, any 3 of 7.
        Story seven = edges.house(0, 0, 0, 0, 0, 0, 0, 0).all(4, 7, 7, 7, 7, 7, 7, 7, 0).all(7, 1, 0, 0, 0, 0, 0, 0, 6);
        seven.due("culprits", 7).does("change 7 7 4").due("culprits", 35).does("change 7 7 7").due("culprits", 1);
        seven.does("change 7 7 8").due("culprits", 0).does("change 7 7 0").due("culprits", 1);
        // GOT of ROOMS that no one heats must be 0; GAVE is not asked.
        seven.does("change 7 7 7", "change 3 7 1").due("culprits", 0);
        edges.house(0).does("change 0 7 0", "change 0 8 3", "change 0 5 1", "change 0 2 0").due("culprits", 2);
    }

    private void culpritsDampers() {
        edges.promise(29, "(DAMPERS as they are)");
        // 1 shovel less a DAMPER of 1 or more is nothing: any of them may have stoked.
        Story s = edges.house(0, 0, 0, 0, 0, 0, 0, 0).all(7, 0, 0, 0, 0, 0, 0, 0, 0).all(6, 1, 2, 3, 1, 2, 3, 1, 1);
        s.due("culprits", 256).due("surely 0", 0).due("surely 1", 255).due("surely 2", 0);
        s.does("change 7 6 0").due("culprits", 128).due("surely 0", 128).due("surely 2", 128).does("change 0 7 1")
            .due("culprits", 128).due("surely 1", 127);
    }

    private void surely() {
        edges.promise(30, "ROOMS in all these sets (what 0), in any (1), the least of them (2).");
        edges.house().due("surely 0", 0).due("surely 1", 0).due("surely 2", 0);
        edges.house(0).does("change 0 7 0").due("surely 0", 0).due("surely 1", 1).due("surely 2", 0);
        Story ring = edges.house(0, 0, 0, 0, 0, 0, 0, 0).due("surely 0", 0).due("surely 1", 0).due("surely 2", 0);
        ring.does("change 0 7 0").due("surely 0", 128).due("surely 1", 128).due("surely 2", 128);
        ring.all(7, 0, 0, 0, 0, 0, 0, 0, 0).due("surely 0", 255).due("surely 1", 255).due("surely 2", 255);
        // ROOM 7 was it, and one of 0 to 6.
        Story seven = edges.house(0, 0, 0, 0, 0, 0, 0, 0).all(4, 7, 7, 7, 7, 7, 7, 7, 0).all(7, 0, 0, 0, 0, 0, 0, 0, 6);
        seven.due("surely 0", 128).due("surely 1", 255).due("surely 2", 129);
    }

    private void surelyRefused() {
        edges.promise(30, "BEYOND.");
        edges.house().beyond("surely #", 0, 2);
        // BEYOND is asked ahead of NONE.
        edges.house(0).beyond("surely #", 0, 2);
        edges.promise(30, "NONE: there is none.");
        edges.house(0).refused("surely 0", Check.NONE).refused("surely 1", Check.NONE).refused("surely 2", Check.NONE);
        edges.house(0, 0, 0, 0, 0, 0, 0, 0).does("change 7 7 2").refused("surely 0", Check.NONE)
            .refused("surely 1", Check.NONE).refused("surely 2", Check.NONE);
    }

    private void travel() {
        edges.promise(31, "n times (1 to 12) by draws: the ROOM that is the rest of a draw by how many there are is AWAY if it "
            + "wasn't, or comes back: ROOMS that are AWAY then, as a set.");
        edges.house(0).due("travel 1", 1).due("of 0 5", 1).due("travel 1", 0).due("of 0 5", 0).due("travel 12", 0)
            .due("travel 11", 1);
        // By draws of 3: 2, 2, 0, 2, 1, 0, 1, 2, 1, 0, 0, 0.
        edges.house(0, 0, 0).due("travel 1", 4).due("travel 1", 0).due("travel 1", 1).due("travel 3", 6);
        edges.house(0, 0, 0).due("travel 12", 3).due("count 6", 836760821).due("count 4", 2);
        edges.house(0, 0, 0).due("travel 11", 2).due("count 6", 180171308);
        // By draws of 8: 6, 0, 4, 3, 7, 4, 6, 6, 4, 5, 2, 4.
        edges.house(0, 0, 0, 0, 0, 0, 0, 0).due("travel 12", 237).due("count 4", 6).due("of 7 5", 1).due("of 4 5", 0);
        edges.house(0, 0, 0, 0, 0, 0, 0, 0).does("change 7 5 1", "change 6 5 1").due("travel 1", 128).due("travel 1", 129);
        edges.house(0, 0, 0, 0, 0, 0, 0, 0).does("seed -1").due("travel 2", 18).due("count 6", 288979989);
        edges.house(0, 0, 0, 0, 0, 0, 0).does("seed 0").due("travel 1", 64).due("count 6", 12345);
    }

    private void travelRefused() {
        edges.promise(31, "BEYOND.");
        edges.house().beyond("travel #", 1, 12);
        edges.house(0, 0, 0, 0, 0, 0, 0, 0).beyond("travel #", 1, 12).due("count 6", 1).due("count 4", 0);
        edges.promise(31, "STATE: there are none.");
        edges.house().refused("travel 1", Check.STATE).refused("travel 12", Check.STATE).due("count 6", 1).does("room 0")
            .due("travel 1", 1);
    }

    private void seed() {
        edges.promise(32, "z becomes v: what it was.");
        edges.house().due("seed -2147483648", 1).due("seed 2147483647", Integer.MIN_VALUE).due("seed 0", Integer.MAX_VALUE)
            .due("seed -1", 0).due("count 6", -1).due("seed -1", -1).due("status -1", 0);
        edges.house(0).does("seed -2147483648", "travel 1").due("seed 5", -2147471303).due("status -1", 0);
    }
}
