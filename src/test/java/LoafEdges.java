/** The sentences of promises 8 and 9, one after the other: send and settle. */
final class LoafEdges extends Edges {
    private LoafEdges() {
    }

    static void all() {
        test(LoafEdges::send);
        test(LoafEdges::sendReturns);
        test(LoafEdges::sendThrows);
        test(LoafEdges::mostLoaves);
        test(LoafEdges::settle);
        test(LoafEdges::settleReturns);
    }

    private static void send() {
        promise(8, "Sends a loaf.");
        LoafExits x = oneExit(5);
        x.send(2, 0);
        Check.is("sent", x.count(4), 1);
        Check.is("not cold", x.count(5), 0);
        Check.is("costs of all", x.count(6), 30);
        Check.is("left by the exit", x.exitOf(0, 3), 1);
        Check.is("costs of the exit", x.exitOf(0, 4), 30);
        Check.is("came", x.neighbourOf(0, 5), 1);
        Check.is("went out", x.choice(2, 0, 4), 1);

        promise(8, "Undoable.");
        LoafExits y = oneExit(7);
        y.bound(0, 0);
        undoable(y, () -> y.send(0, 0));
        undoable(y, () -> y.send(0, 1));

        promise(8, "`town`: a town");
        onlyTowns(town -> oneExit(3).send(town, 0));

        promise(8, "`house`: 0 to 3");
        onlyHouses(house -> oneExit(3).send(0, house));
    }

    private static void sendReturns() {
        promise(8, "Returns the exit by which it leaves");
        LoafExits x = exitsAt(7, 5, 3, 1);
        Check.is("from town 0", x.send(0, 0), 3);
        Check.is("from town 7", x.send(7, 0), 0);
        Check.is("from town 5", x.send(5, 0), 1);
        Check.is("from town 3", x.send(3, 0), 2);

        promise(8, "; NONE if there is none that could be taken: the loaf grows cold.");
        LoafExits y = oneExit(0);
        Check.is("no way to the house", y.send(0, 3), NONE);
        y.turn(0);
        Check.is("closed", y.send(0, 0), NONE);
        y.turn(0);
        y.road(0, 1, 0);
        Check.is("no distance", y.send(1, 0), NONE);
        Check.is("without exits", new LoafExits().send(0, 0), NONE);
        Check.is("sent", y.count(4), 3);
        Check.is("cold", y.count(5), 3);
        Check.is("without costs", y.count(6), 0);
        Check.is("none left by the exit", y.exitOf(0, 3), 0);
        Check.is("none came", y.neighbourOf(0, 5), 0);
        Check.is("none went out", y.choice(1, 0, 4), 0);
    }

    private static void sendThrows() {
        LoafExits x = usedLand();
        promise(8, "Throws `IndexOutOfBoundsException` if there is no such town or house");
        refusedWithoutChange(x, IndexOutOfBoundsException.class, () -> x.send(8, 0));
        refusedWithoutChange(x, IndexOutOfBoundsException.class, () -> x.send(-1, 3));
        refusedWithoutChange(x, IndexOutOfBoundsException.class, () -> x.send(0, 4));
        refusedWithoutChange(x, IndexOutOfBoundsException.class, () -> x.send(7, -1));
    }

    /** An object is not for so many calls, but the document names the number. */
    private static void mostLoaves() {
        promise(8, "Throws `IllegalStateException` if 9999 loaves were sent");
        LoafExits x = oneExit(0);
        send(x, 0, 0, 9990);
        send(x, 0, 1, 8);
        Check.is("the 9999th one", x.send(0, 0), 0);
        Check.is("sent", x.count(4), 9999);
        refusedWithoutChange(x, IllegalStateException.class, () -> x.send(0, 0));
        refusedWithoutChange(x, IllegalStateException.class, () -> x.send(0, 1));
        x.undo();
        Check.is("undone, so that one more is sent", x.send(0, 0), 0);
        x.settle();
        refusedWithoutChange(x, IllegalStateException.class, () -> x.send(0, 0));

        promise(13, ", up to the first one whose method would throw an exception");
        x.undo();
        x.undo();
        write(x, "x0;r07=3;s0>0;x0");
        Check.is("there is room for one loaf", x.run(), 4);
        write(x, "x0;s0>0;x0");
        Check.is("there is none, so send would throw", x.run(), 1);
        Check.is("what is ahead of it is done, what is behind it is not", x.exitOf(0, 2), 0);
    }

    private static void settle() {
        promise(9, "Begins the counts of the neighbours anew.");
        LoafExits x = exitsAt(0, 2, 4, 6);
        for (int neighbour = 0; neighbour < 4; neighbour++) {
            x.bound(neighbour, 1);
            send(x, 2 * neighbour, 0, 3);
        }
        x.settle();
        for (int neighbour = 0; neighbour < 4; neighbour++) {
            Check.is("came", x.neighbourOf(neighbour, 5), 0);
            Check.is("complaints since then", x.neighbourOf(neighbour, 6), 0);
            Check.is("complaints so far stay", x.neighbourOf(neighbour, 7), 2);
            Check.is("the bound stays", x.neighbourOf(neighbour, 4), 1);
            Check.is("the loaves of the exit stay", x.exitOf(neighbour, 3), 3);
            Check.is("the loaves of the town stay", x.choice(2 * neighbour, 0, 4), 3);
        }
        Check.is("complaints so far stay", x.count(7), 8);
        Check.is("loaves sent stay", x.count(4), 12);
        x.send(0, 0);
        Check.is("the first one behind it is within the bound", x.neighbourOf(0, 6), 0);
        x.send(0, 0);
        Check.is("the second one is not", x.neighbourOf(0, 6), 1);

        promise(9, "Undoable.");
        LoafExits y = new LoafExits();
        undoable(y, () -> y.settle());
        LoafExits z = oneExit(0);
        z.bound(0, 0);
        send(z, 0, 0, 2);
        undoable(z, () -> z.settle());
        Check.is("the counts are back", z.neighbourOf(0, 6), 2);
    }

    private static void settleReturns() {
        promise(9, "Returns how many complaints there were since they began.");
        Check.is("of a new object", new LoafExits().settle(), 0);
        LoafExits x = exitsAt(0, 7);
        x.bound(0, 1);
        x.bound(1, 0);
        x.send(0, 0);
        Check.is("none, though one came", x.settle(), 0);
        send(x, 0, 0, 2);
        send(x, 7, 0, 3);
        Check.is("one and three", x.settle(), 4);
        Check.is("none since then", x.settle(), 0);
        send(x, 7, 0, 1);
        Check.is("one since then", x.settle(), 1);
    }
}
