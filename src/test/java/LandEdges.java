/** The sentences of promises 1 to 7, one after the other: a new object, road, exit, turn, offer, bound, set. */
final class LandEdges extends Edges {
    private LandEdges() {
    }

    static void all() {
        test(LandEdges::newObject);
        test(LandEdges::road);
        test(LandEdges::roadThrows);
        test(LandEdges::exit);
        test(LandEdges::exitThrows);
        test(LandEdges::turn);
        test(LandEdges::offer);
        test(LandEdges::offerThrows);
        test(LandEdges::bound);
        test(LandEdges::set);
    }

    private static void newObject() {
        promise(1, "Creates the land without exits");
        LoafExits x = new LoafExits();
        Check.is("exits", x.count(1), 0);
        Check.is("open ones", x.count(2), 0);
        Check.noIndex("exit 0", () -> x.exitOf(0, 0));
        usedLand();
        Check.is("exits, with another land that has some", new LoafExits().count(1), 0);

        promise(1, "and offers");
        Check.is("offers", x.count(3), 0);
        for (int pair = 0; pair < 16; pair++) {
            Check.is("offer " + pair, x.neighbourOf(pair / 4, pair % 4), 0);
        }

        promise(1, ", with empty slots");
        Check.noState("slot 0", () -> x.goBack(0));
        Check.noState("slot 1", () -> x.goBack(1));
        Check.noState("and no saved state", () -> x.undo());

        promise(1, "and an empty buffer.");
        Check.is("the first error", x.firstError(), 0);
        Check.is("the length", x.clearBuffer(), 0);
        Check.is("the length behind the first sign", x.append('s'), 1);
    }

    private static void road() {
        promise(2, "Changes a road.");
        LoafExits x = new LoafExits();
        x.road(4, 6, 17);
        Check.is("there", x.roadOf(4, 6), 17);
        Check.is("back", x.roadOf(6, 4), 17);
        Check.is("no other one", x.count(0), 8);
        Check.is("the distance is another one", x.distance(4, 6, 1), 17);
        x.road(6, 4, 18);
        Check.is("from the other end, there", x.roadOf(4, 6), 18);
        Check.is("from the other end, back", x.roadOf(6, 4), 18);

        promise(2, "Undoable.");
        LoafExits y = new LoafExits();
        undoable(y, () -> y.road(0, 7, 5));
        undoable(y, () -> y.road(0, 1, 0));
        undoable(y, () -> y.road(3, 4, 10));

        promise(2, "`one`: a town");
        onlyTowns(one -> new LoafExits().road(one, one == 3 ? 5 : 3, 1));

        promise(2, "`other`: another town");
        onlyTowns(other -> new LoafExits().road(other == 3 ? 5 : 3, other, 1));

        promise(2, "`cost`: 1 to 99, or 0: there is none then");
        onlyValues(0, 99, cost -> new LoafExits().road(0, 1, cost));
        LoafExits z = new LoafExits();
        z.road(0, 1, 99);
        Check.is("99", z.roadOf(0, 1), 99);
        z.road(0, 1, 1);
        Check.is("1", z.distance(0, 1, 0), 1);
        z.road(0, 1, 0);
        Check.is("0: roads", z.count(0), 6);
        Check.is("0: no distance", z.distance(0, 1, 0), NONE);

        promise(2, "Returns the cost before, 0 without a road.");
        LoafExits w = new LoafExits();
        Check.is("at first", w.road(2, 3, 99), 10);
        Check.is("99 before, asked the other way", w.road(3, 2, 0), 99);
        Check.is("none before", w.road(2, 3, 1), 0);
        Check.is("1 before", w.road(2, 3, 1), 1);
        Check.is("none at first between 0 and 7", w.road(0, 7, 0), 0);
    }

    private static void roadThrows() {
        LoafExits x = usedLand();
        promise(2, "Throws `IndexOutOfBoundsException` if there is no such town");
        refusedWithoutChange(x, IndexOutOfBoundsException.class, () -> x.road(8, 0, 5));
        refusedWithoutChange(x, IndexOutOfBoundsException.class, () -> x.road(0, 8, 5));
        refusedWithoutChange(x, IndexOutOfBoundsException.class, () -> x.road(-1, 8, 5));
        refusedWithoutChange(x, IndexOutOfBoundsException.class, () -> x.road(8, 8, 5));

        promise(2, "Throws `IllegalArgumentException` if both are the same, or cost is out of range");
        for (int k = 0; k < 8; k++) {
            int town = k;
            refusedWithoutChange(x, IllegalArgumentException.class, () -> x.road(town, town, 5));
        }
        refusedWithoutChange(x, IllegalArgumentException.class, () -> x.road(0, 0, 0));
        refusedWithoutChange(x, IllegalArgumentException.class, () -> x.road(0, 0, 100));
        refusedWithoutChange(x, IllegalArgumentException.class, () -> x.road(0, 1, 100));
        refusedWithoutChange(x, IllegalArgumentException.class, () -> x.road(0, 1, -1));
    }

    private static void exit() {
        promise(3, "Adds an exit, open.");
        LoafExits x = new LoafExits();
        x.exit(7, 3);
        Check.is("exits", x.count(1), 1);
        Check.is("open ones", x.count(2), 1);
        Check.is("its town", x.exitOf(0, 0), 7);
        Check.is("its neighbour", x.exitOf(0, 1), 3);
        Check.is("it is open", x.exitOf(0, 2), 1);
        x.turn(0);
        x.undo();
        x.undo();
        x.exit(6, 2);
        Check.is("open, in place of an undone one", x.exitOf(0, 2), 1);
        x.turn(0);
        x.exit(6, 2);
        Check.is("open, beside a closed one just like it", x.exitOf(1, 2), 1);

        promise(3, "Undoable.");
        LoafExits y = new LoafExits();
        undoable(y, () -> y.exit(0, 0));
        y.exit(5, 1);
        undoable(y, () -> y.exit(7, 3));

        promise(3, "`town`: a town");
        onlyTowns(town -> new LoafExits().exit(town, 0));

        promise(3, "`neighbour`: 0 to 3");
        onlyNeighbours(neighbour -> new LoafExits().exit(0, neighbour));

        promise(3, "Returns its number.");
        LoafExits z = new LoafExits();
        for (int number = 0; number < 8; number++) {
            Check.is("the number", z.exit(3, 1), number);
        }
        z.undo();
        z.undo();
        Check.is("the number of an undone one again", z.exit(0, 0), 6);
        Check.is("the last one", z.exit(0, 0), 7);
    }

    private static LoafExits eightExits() {
        LoafExits x = new LoafExits();
        for (int k = 0; k < 8; k++) {
            x.exit(k, k % 4);
        }
        return x;
    }

    private static void exitThrows() {
        LoafExits x = usedLand();
        promise(3, "Throws `IndexOutOfBoundsException` if there is no such town or neighbour");
        refusedWithoutChange(x, IndexOutOfBoundsException.class, () -> x.exit(8, 0));
        refusedWithoutChange(x, IndexOutOfBoundsException.class, () -> x.exit(0, 4));
        refusedWithoutChange(x, IndexOutOfBoundsException.class, () -> x.exit(-1, -1));

        promise(3, "Throws `IllegalStateException` if there are 8");
        LoafExits y = eightExits();
        refusedWithoutChange(y, IllegalStateException.class, () -> y.exit(0, 0));
        y.turn(2);
        refusedWithoutChange(y, IllegalStateException.class, () -> y.exit(7, 3));
        y.undo();
        y.undo();
        Check.is("room again behind undo", y.exit(0, 0), 7);
    }

    private static void turn() {
        promise(4, "Closes an exit, or opens it, if it is closed.");
        LoafExits x = exitsAt(1, 1, 1);
        x.turn(1);
        Check.is("closed", x.exitOf(1, 2), 0);
        Check.is("the one ahead of it is open", x.exitOf(0, 2), 1);
        Check.is("the one behind it is open", x.exitOf(2, 2), 1);
        x.turn(1);
        Check.is("opened", x.exitOf(1, 2), 1);
        x.turn(1);
        Check.is("closed again", x.exitOf(1, 2), 0);
        Check.is("exits", x.count(1), 3);
        Check.is("open ones", x.count(2), 2);

        promise(4, "Undoable.");
        LoafExits y = oneExit(3);
        undoable(y, () -> y.turn(0));
        y.turn(0);
        undoable(y, () -> y.turn(0));

        promise(4, "`exit`: its number");
        only(0, 7, IndexOutOfBoundsException.class, exit -> eightExits().turn(exit));
        only(0, 2, IndexOutOfBoundsException.class, exit -> exitsAt(4, 4, 4).turn(exit));

        promise(4, "Returns 1 if it is open then, otherwise 0.");
        LoafExits z = eightExits();
        for (int exit = 0; exit < 8; exit++) {
            Check.is("closed", z.turn(exit), 0);
        }
        for (int exit = 0; exit < 8; exit++) {
            Check.is("opened", z.turn(exit), 1);
        }

        promise(4, "Throws `IndexOutOfBoundsException` if there is no such exit");
        LoafExits none = new LoafExits();
        refusedWithoutChange(none, IndexOutOfBoundsException.class, () -> none.turn(0));
        LoafExits w = usedLand();
        refusedWithoutChange(w, IndexOutOfBoundsException.class, () -> w.turn(3));
        refusedWithoutChange(w, IndexOutOfBoundsException.class, () -> w.turn(-1));
        LoafExits undone = oneExit(0);
        undone.exit(1, 1);
        undone.undo();
        refusedWithoutChange(undone, IndexOutOfBoundsException.class, () -> undone.turn(1));
    }

    private static void offer() {
        promise(5, "Changes an offer.");
        LoafExits x = new LoafExits();
        x.offer(1, 2, 7);
        Check.is("the length", x.neighbourOf(1, 2), 7);
        Check.is("offers", x.count(3), 1);
        x.offer(1, 2, 6);
        Check.is("another length", x.neighbourOf(1, 2), 6);
        Check.is("offers still", x.count(3), 1);
        x.offer(0, 3, 5);
        x.offer(1, 0, 4);
        Check.is("house 3 of neighbour 0 is not house 0 of neighbour 1", x.neighbourOf(0, 3), 5);

        promise(5, "Undoable.");
        LoafExits y = new LoafExits();
        undoable(y, () -> y.offer(3, 3, 9));
        undoable(y, () -> y.offer(3, 3, 0));
        y.offer(3, 3, 4);
        undoable(y, () -> y.offer(3, 3, 0));
        undoable(y, () -> y.offer(3, 3, 4));

        promise(5, "`neighbour`: 0 to 3");
        onlyNeighbours(neighbour -> new LoafExits().offer(neighbour, 0, 1));

        promise(5, "`house`: 0 to 3");
        onlyHouses(house -> new LoafExits().offer(0, house, 1));

        promise(5, "`length`: 1 to 9, or 0: no way is offered then");
        onlyValues(0, 9, length -> new LoafExits().offer(3, 3, length));
        LoafExits z = oneExit(0);
        z.offer(0, 0, 9);
        Check.is("9: a way", z.choice(0, 0, 3), 1);
        z.offer(0, 0, 0);
        Check.is("0: no way", z.choice(0, 0, 3), 0);
        Check.is("0: no offer", z.count(3), 0);

        promise(5, "Returns the length before, 0 without an offer.");
        LoafExits w = new LoafExits();
        Check.is("none at first", w.offer(2, 1, 9), 0);
        Check.is("9 before", w.offer(2, 1, 0), 9);
        Check.is("none before", w.offer(2, 1, 1), 0);
        Check.is("1 before", w.offer(2, 1, 1), 1);
        Check.is("none of the house beside it", w.offer(2, 2, 1), 0);
        Check.is("none of the neighbour beside it", w.offer(1, 1, 1), 0);
    }

    private static void offerThrows() {
        LoafExits x = usedLand();
        promise(5, "Throws `IndexOutOfBoundsException` if there is no such neighbour or house");
        refusedWithoutChange(x, IndexOutOfBoundsException.class, () -> x.offer(4, 0, 1));
        refusedWithoutChange(x, IndexOutOfBoundsException.class, () -> x.offer(-1, 3, 1));
        refusedWithoutChange(x, IndexOutOfBoundsException.class, () -> x.offer(0, 4, 1));
        refusedWithoutChange(x, IndexOutOfBoundsException.class, () -> x.offer(3, -1, 1));

        promise(5, "Throws `IllegalArgumentException` if length is out of range");
        refusedWithoutChange(x, IllegalArgumentException.class, () -> x.offer(0, 0, -1));
        refusedWithoutChange(x, IllegalArgumentException.class, () -> x.offer(0, 0, 10));
    }

    private static void bound() {
        promise(6, "Changes the bound of a neighbour.");
        LoafExits x = new LoafExits();
        x.bound(2, 7);
        Check.is("the bound", x.neighbourOf(2, 4), 7);
        Check.is("of the one ahead of it", x.neighbourOf(1, 4), 20);
        Check.is("of the one behind it", x.neighbourOf(3, 4), 20);

        promise(6, "Undoable.");
        LoafExits y = new LoafExits();
        undoable(y, () -> y.bound(0, 99));
        undoable(y, () -> y.bound(3, 20));

        promise(6, "`neighbour`: 0 to 3");
        onlyNeighbours(neighbour -> new LoafExits().bound(neighbour, 5));

        promise(6, "`loaves`: 0 to 99");
        onlyValues(0, 99, loaves -> new LoafExits().bound(3, loaves));
        LoafExits z = new LoafExits();
        z.bound(0, 0);
        Check.is("0", z.neighbourOf(0, 4), 0);
        z.bound(0, 99);
        Check.is("99", z.neighbourOf(0, 4), 99);

        promise(6, "Returns the bound before.");
        LoafExits w = new LoafExits();
        Check.is("at first", w.bound(3, 0), 20);
        Check.is("0 before", w.bound(3, 99), 0);
        Check.is("99 before", w.bound(3, 99), 99);
        Check.is("of another one", w.bound(0, 1), 20);

        LoafExits v = usedLand();
        promise(6, "Throws `IndexOutOfBoundsException` if there is no such neighbour");
        refusedWithoutChange(v, IndexOutOfBoundsException.class, () -> v.bound(4, 5));
        refusedWithoutChange(v, IndexOutOfBoundsException.class, () -> v.bound(-1, 5));

        promise(6, "Throws `IllegalArgumentException` if loaves is out of range");
        refusedWithoutChange(v, IllegalArgumentException.class, () -> v.bound(0, 100));
        refusedWithoutChange(v, IllegalArgumentException.class, () -> v.bound(0, -1));
    }

    private static void set() {
        promise(7, "Changes a setting.");
        LoafExits x = exitsAt(2, 1);
        x.offer(0, 0, 1);
        Check.is("the shortest", x.choice(1, 0, 0), 0);
        x.set(0, 1);
        Check.is("the nearest", x.choice(1, 0, 0), 1);
        Check.is("setting 1 is as before", x.set(1, 0), 0);
        x.set(1, 1);
        Check.is("setting 0 is as before", x.set(0, 1), 1);

        promise(7, "Undoable.");
        for (int setting = 0; setting < 2; setting++) {
            int changed = setting;
            LoafExits y = new LoafExits();
            undoable(y, () -> y.set(changed, 1));
            undoable(y, () -> y.set(changed, 0));
        }

        promise(7, "`setting`: 0 or 1");
        only(0, 1, IndexOutOfBoundsException.class, setting -> new LoafExits().set(setting, 1));

        promise(7, "`value`: 0 or 1");
        onlyValues(0, 1, value -> new LoafExits().set(0, value));
        onlyValues(0, 1, value -> new LoafExits().set(1, value));

        promise(7, "Returns the previous value.");
        for (int setting = 0; setting < 2; setting++) {
            LoafExits y = new LoafExits();
            Check.is("at first", y.set(setting, 1), 0);
            Check.is("of the other one", y.set(1 - setting, 0), 0);
            Check.is("1 before", y.set(setting, 1), 1);
            Check.is("1 before still", y.set(setting, 0), 1);
            Check.is("0 before", y.set(setting, 0), 0);
        }

        LoafExits z = usedLand();
        promise(7, "Throws `IndexOutOfBoundsException` if there is no such setting");
        refusedWithoutChange(z, IndexOutOfBoundsException.class, () -> z.set(2, 0));
        refusedWithoutChange(z, IndexOutOfBoundsException.class, () -> z.set(-1, 0));

        promise(7, "Throws `IllegalArgumentException` if value is out of range");
        refusedWithoutChange(z, IllegalArgumentException.class, () -> z.set(0, 2));
        refusedWithoutChange(z, IllegalArgumentException.class, () -> z.set(1, -1));
    }
}
