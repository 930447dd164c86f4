/** The sentences of promises 14 to 16, one after the other: keep, goBack, undo. */
final class SnapshotEdges extends Edges {
    private SnapshotEdges() {
    }

    static void all() {
        test(SnapshotEdges::keep);
        test(SnapshotEdges::goBack);
        test(SnapshotEdges::goBackThrows);
        test(SnapshotEdges::undo);
    }

    private static void keep() {
        promise(14, "Takes a snapshot, in place of the one in the slot.");
        LoafExits x = new LoafExits();
        x.road(0, 7, 1);
        x.keep(0);
        x.road(0, 7, 2);
        x.keep(1);
        x.road(0, 7, 3);
        x.keep(0);
        x.road(0, 7, 4);
        x.goBack(1);
        Check.is("slot 1", x.roadOf(0, 7), 2);
        x.goBack(0);
        Check.is("slot 0, the later one", x.roadOf(0, 7), 3);
        LoafExits y = new LoafExits();
        notUndoable(y, () -> y.keep(0));
        LoafExits z = new LoafExits();
        z.road(0, 1, 5);
        z.keep(0);
        z.undo();
        Check.is("undo leaves the slot", z.goBack(0) + z.roadOf(0, 1), 5);

        promise(14, "`slot`: 0 or 1");
        onlyValues(0, 1, slot -> new LoafExits().keep(slot));

        promise(14, "Returns how many loaves were sent so far.");
        Check.is("none", new LoafExits().keep(0), 0);
        LoafExits w = oneExit(0);
        send(w, 0, 0, 2);
        w.send(0, 1);
        Check.is("two and a cold one", w.keep(0), 3);
        w.settle();
        Check.is("so far, not since settle", w.keep(1), 3);

        promise(14, "Throws `IllegalArgumentException` if slot is out of range");
        LoafExits v = usedLand();
        refusedWithoutChange(v, IllegalArgumentException.class, () -> v.keep(2));
        refusedWithoutChange(v, IllegalArgumentException.class, () -> v.keep(-1));
    }

    private static void goBack() {
        promise(15, "Goes back to a snapshot, which stays.");
        LoafExits x = oneExit(2);
        x.keep(0);
        for (int round = 0; round < 3; round++) {
            x.exit(5, 1);
            x.turn(0);
            x.send(2, 0);
            x.goBack(0);
            Check.is("exits", x.count(1), 1);
            Check.is("open ones", x.count(2), 1);
            Check.is("loaves", x.count(4), 0);
        }
        LoafExits empty = new LoafExits();
        empty.keep(1);
        empty.exit(0, 0);
        empty.goBack(1);
        Check.noIndex("the exit is gone", () -> empty.exitOf(0, 0));
        Check.is("the number is free again", empty.exit(6, 3), 0);

        promise(15, "Undoable.");
        LoafExits y = new LoafExits();
        y.keep(0);
        undoable(y, () -> y.goBack(0));
        y.road(0, 1, 5);
        undoable(y, () -> y.goBack(0));
        Check.is("the road of before", y.roadOf(0, 1), 5);

        promise(15, "`slot`: 0 or 1");
        onlyValues(0, 1, SnapshotEdges::goBackOfTwo);
        Check.is("slot 0", goBackOfTwo(0), 0);
        Check.is("slot 1", goBackOfTwo(1), 1);

        promise(15, "Returns how many loaves were sent so far then.");
        LoafExits z = new LoafExits();
        send(z, 0, 0, 3);
        z.keep(0);
        send(z, 0, 0, 4);
        Check.is("then", z.goBack(0), 3);
        Check.is("and now", z.count(4), 3);
    }

    private static int goBackOfTwo(int slot) {
        LoafExits x = new LoafExits();
        x.keep(0);
        x.send(0, 0);
        x.keep(1);
        x.send(0, 0);
        return x.goBack(slot);
    }

    private static void goBackThrows() {
        promise(15, "Throws `IllegalArgumentException` if slot is out of range");
        LoafExits x = usedLand();
        refusedWithoutChange(x, IllegalArgumentException.class, () -> x.goBack(2));
        refusedWithoutChange(x, IllegalArgumentException.class, () -> x.goBack(-1));

        promise(15, "Throws `IllegalStateException` if there is no snapshot in it");
        refusedWithoutChange(x, IllegalStateException.class, () -> x.goBack(0));
        LoafExits y = new LoafExits();
        y.keep(0);
        refusedWithoutChange(y, IllegalStateException.class, () -> y.goBack(1));
        Check.is("the other one has one", y.goBack(0), 0);
    }

    private static void undo() {
        promise(16, "Restores the latest saved state, and drops it.");
        LoafExits x = new LoafExits();
        x.road(0, 1, 1);
        x.road(0, 1, 2);
        x.road(0, 1, 3);
        x.undo();
        Check.is("the latest", x.roadOf(0, 1), 2);
        x.undo();
        Check.is("the one ahead of it", x.roadOf(0, 1), 1);
        x.road(0, 1, 4);
        x.undo();
        Check.is("one saved in between", x.roadOf(0, 1), 1);
        x.undo();
        Check.is("the first one", x.roadOf(0, 1), 10);

        promise(16, "Returns how many saved states are left.");
        LoafExits y = new LoafExits();
        for (int k = 0; k < 9; k++) {
            y.settle();
        }
        for (int left = 5; left >= 0; left--) {
            Check.is("left", y.undo(), left);
            Check.is("and counted", y.count(9), left);
        }

        promise(16, "Throws `IllegalStateException` if there is none");
        refusedWithoutChange(y, IllegalStateException.class, () -> y.undo());
        LoafExits z = written("x0");
        z.keep(0);
        refusedWithoutChange(z, IllegalStateException.class, () -> z.undo());
        y.settle();
        Check.is("there is one", y.undo(), 0);
        refusedWithoutChange(y, IllegalStateException.class, () -> y.undo());
    }
}
