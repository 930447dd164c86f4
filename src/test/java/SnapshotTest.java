/** Promises 14 to 16: keep, goBack, undo. */
public final class SnapshotTest {
    public static void main(String[] args) {
        keep();
        goBack();
        snapshotStays();
        snapshotHoldsAll();
        undo();
        sixStates();
        undoLeavesSlots();
        refused();
        Check.end("SnapshotTest");
    }

    private static void keep() {
        LoafExits x = new LoafExits();
        Check.noArgument("14: slot -1", () -> x.keep(-1));
        Check.noArgument("14: slot 2", () -> x.keep(2));
        Check.is("14: no loaves", x.keep(0), 0);
        x.send(0, 0);
        x.send(0, 0);
        Check.is("14: two loaves", x.keep(1), 2);
        Check.is("14: in place of it", x.keep(0), 2);
        Check.is("14: not undoable", x.count(9), 2);
        x.send(0, 0);
        Check.is("15: slot 0", x.goBack(0), 2);
    }

    private static void goBack() {
        LoafExits x = new LoafExits();
        Check.noArgument("15: slot -1", () -> x.goBack(-1));
        Check.noArgument("15: slot 2", () -> x.goBack(2));
        Check.noState("15: empty", () -> x.goBack(0));
        x.send(0, 0);
        x.keep(1);
        Check.noState("15: slot 0 is empty still", () -> x.goBack(0));
        x.send(0, 0);
        x.road(0, 7, 3);
        int saved = x.count(9);
        Check.is("15: loaves of then", x.goBack(1), 1);
        Check.is("15: undoable", x.count(9), saved + 1);
        Check.is("15: loaves", x.count(4), 1);
        Check.is("15: the road is gone", x.roadOf(0, 7), 0);
        Check.is("15: undone", x.undo(), saved);
        Check.is("15: loaves as before", x.count(4), 2);
        Check.is("15: the road is back", x.roadOf(0, 7), 3);
    }

    private static void snapshotStays() {
        LoafExits x = new LoafExits();
        x.keep(0);
        x.exit(3, 3);
        x.keep(1);
        for (int round = 0; round < 3; round++) {
            x.goBack(0);
            Check.is("15: without an exit", x.count(1), 0);
            x.exit(5, 1);
            x.exit(5, 2);
            x.goBack(1);
            Check.is("15: with one", x.count(1), 1);
            Check.is("15: at its town", x.exitOf(0, 0), 3);
            x.turn(0);
        }
    }

    private static void snapshotHoldsAll() {
        LoafExits x = new LoafExits();
        x.exit(2, 1);
        x.offer(1, 2, 3);
        x.bound(1, 0);
        x.set(0, 1);
        x.set(1, 1);
        x.send(2, 2);
        x.send(3, 2);
        x.send(3, 3);
        x.settle();
        x.send(4, 2);
        x.keep(0);
        x.road(2, 3, 50);
        x.road(5, 6, 1);
        x.turn(0);
        x.exit(1, 1);
        x.offer(1, 2, 9);
        x.offer(0, 0, 1);
        x.bound(1, 7);
        x.set(0, 0);
        x.set(1, 0);
        x.send(2, 2);
        x.send(2, 1);
        x.settle();
        x.append('s');
        Check.is("15: loaves", x.goBack(0), 4);
        int[] counts = {7, 1, 1, 1, 4, 1, 30, 3, 24, 6};
        for (int what = 0; what <= 9; what++) {
            Check.is("15: count " + what, x.count(what), counts[what]);
        }
        int[] neighbour = {0, 0, 3, 0, 0, 1, 1, 3};
        for (int what = 0; what <= 7; what++) {
            Check.is("15: neighbourOf 1 " + what, x.neighbourOf(1, what), neighbour[what]);
        }
        int[] exit = {2, 1, 1, 3, 30};
        for (int what = 0; what <= 4; what++) {
            Check.is("15: exitOf 0 " + what, x.exitOf(0, what), exit[what]);
        }
        Check.is("15: distance", x.distance(0, 7, 0), 70);
        Check.is("15: went out", x.choice(3, 2, 4), 1);
        Check.is("15: setting 0", x.set(0, 0), 1);
        Check.is("15: setting 1", x.set(1, 0), 1);
        Check.is("15: the buffer is left", x.clearBuffer(), 1);
    }

    private static void undo() {
        LoafExits x = new LoafExits();
        Check.noState("16: none", () -> x.undo());
        x.road(0, 1, 20);
        x.road(0, 1, 30);
        x.road(0, 1, 30);
        Check.is("16: three saved", x.count(9), 3);
        Check.is("16: two left", x.undo(), 2);
        Check.is("16: changed nothing", x.roadOf(0, 1), 30);
        Check.is("16: one left", x.undo(), 1);
        Check.is("16: the first one", x.roadOf(0, 1), 20);
        x.road(0, 1, 40);
        Check.is("16: saved anew", x.count(9), 2);
        Check.is("16: the latest", x.undo(), 1);
        Check.is("16: as before", x.roadOf(0, 1), 20);
        Check.is("16: none left", x.undo(), 0);
        Check.is("16: at first", x.roadOf(0, 1), 10);
        Check.noState("16: no more", () -> x.undo());
    }

    private static void sixStates() {
        LoafExits x = new LoafExits();
        for (int cost = 1; cost <= 20; cost++) {
            x.road(0, 7, cost);
            Check.is("16: at most 6", x.count(9), Math.min(cost, 6));
        }
        for (int left = 5; left >= 0; left--) {
            Check.is("16: left", x.undo(), left);
            Check.is("16: the oldest were dropped", x.roadOf(0, 7), 14 + left);
        }
        Check.noState("16: dropped", () -> x.undo());
        x.road(0, 7, 77);
        x.undo();
        Check.is("16: once more", x.roadOf(0, 7), 14);
    }

    private static void undoLeavesSlots() {
        LoafExits x = new LoafExits();
        x.send(1, 1);
        x.keep(0);
        x.undo();
        Check.is("16: undone", x.count(4), 0);
        Check.is("16: the slot is as it was", x.goBack(0), 1);
        x.undo();
        Check.is("15: undone", x.count(4), 0);
        x.append('x');
        x.send(0, 0);
        x.append('0');
        x.undo();
        Check.is("16: the buffer is as it was", x.clearBuffer(), 2);
    }

    private static void refused() {
        LoafExits x = new LoafExits();
        x.exit(0, 0);
        Check.noIndex("a throw saves nothing", () -> x.turn(5));
        Check.noArgument("a throw saves nothing", () -> x.goBack(7));
        Check.noState("a throw saves nothing", () -> x.goBack(1));
        Check.noArgument("a throw saves nothing", () -> x.run());
        Check.is("one saved state", x.count(9), 1);
    }
}
