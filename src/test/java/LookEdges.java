/** The sentences of promises 17 to 23, one after the other: roadOf, distance, exitOf, neighbourOf, choice, why, count. */
final class LookEdges extends Edges {
    private LookEdges() {
    }

    static void all() {
        test(LookEdges::roadOf);
        test(LookEdges::distance);
        test(LookEdges::distanceThrows);
        test(LookEdges::exitOf);
        test(LookEdges::exitOfThrows);
        test(LookEdges::neighbourOf);
        test(LookEdges::neighbourOfThrows);
        test(LookEdges::choice);
        test(LookEdges::choiceCounts);
        test(LookEdges::choiceNext);
        test(LookEdges::choiceThrows);
        test(LookEdges::why);
        test(LookEdges::whyInOrder);
        test(LookEdges::whyThrows);
        test(LookEdges::countOfLand);
        test(LookEdges::countOfLoaves);
        test(LookEdges::countThrows);
    }

    private static void roadOf() {
        promise(17, "Returns the cost of a road.");
        LoafExits x = new LoafExits();
        x.road(5, 2, 99);
        Check.is("there", x.roadOf(5, 2), 99);
        Check.is("back", x.roadOf(2, 5), 99);
        Check.is("at first", x.roadOf(6, 7), 10);
        x.road(2, 4, 1);
        Check.is("the road, not the way around", x.roadOf(5, 2), 99);

        promise(17, "`one`: a town");
        onlyTowns(one -> new LoafExits().roadOf(one, 0));

        promise(17, "`other`: a town");
        onlyTowns(other -> new LoafExits().roadOf(7, other));

        promise(17, "Returns the cost; 0 without a road.");
        Check.is("none at first", x.roadOf(0, 7), 0);
        Check.is("none, though there is a way", x.roadOf(0, 2), 0);
        for (int town = 0; town < 8; town++) {
            Check.is("of a town to itself", x.roadOf(town, town), 0);
        }
        x.road(5, 2, 0);
        Check.is("none any more", x.roadOf(2, 5), 0);

        LoafExits y = usedLand();
        promise(17, "Throws `IndexOutOfBoundsException` if there is no such town");
        refusedWithoutChange(y, IndexOutOfBoundsException.class, () -> y.roadOf(8, 0));
        refusedWithoutChange(y, IndexOutOfBoundsException.class, () -> y.roadOf(0, 8));
        refusedWithoutChange(y, IndexOutOfBoundsException.class, () -> y.roadOf(-1, -1));
    }

    /** A way of seven roads that goes through the towns in no order: 6 0 5 2 7 1 4 3. */
    private static LoafExits windingWay() {
        LoafExits x = new LoafExits();
        for (int town = 0; town < 7; town++) {
            x.road(town, town + 1, 0);
        }
        int[] way = {6, 0, 5, 2, 7, 1, 4, 3};
        for (int k = 0; k < 7; k++) {
            x.road(way[k], way[k + 1], 93 + k);
        }
        return x;
    }

    private static void distance() {
        promise(18, "Returns the distance of two towns.");
        LoafExits x = new LoafExits();
        Check.is("along", x.distance(2, 5, 0), 30);
        Check.is("along", x.distance(2, 5, 1), 30);
        x.road(2, 5, 31);
        Check.is("a dearer road", x.distance(2, 5, 0), 30);
        x.road(2, 5, 29);
        Check.is("a cheaper road", x.distance(2, 5, 1), 29);

        promise(18, "`one`: a town");
        onlyTowns(one -> new LoafExits().distance(one, 0, 0));
        onlyTowns(one -> new LoafExits().distance(one, 0, 1));

        promise(18, "`other`: a town");
        onlyTowns(other -> new LoafExits().distance(7, other, 0));
        onlyTowns(other -> new LoafExits().distance(7, other, 1));

        LoafExits y = windingWay();
        promise(18, "`what`: 0: told by the nearest town that is not settled yet, one after the other");
        Check.is("over all towns", y.distance(6, 3, 0), 672);
        Check.is("over the last two roads", y.distance(1, 3, 0), 197);

        promise(18, "; 1: told by towns that ways may go over, one more after the other");
        Check.is("over all towns", y.distance(6, 3, 1), 672);
        Check.is("over the last two roads", y.distance(1, 3, 1), 197);

        promise(18, "Returns the distance (the same for both)");
        for (int pair = 0; pair < 64; pair++) {
            int one = pair / 8;
            int other = pair % 8;
            Check.is("of " + one + " and " + other, y.distance(one, other, 0), y.distance(one, other, 1));
            Check.is("of " + one + " and " + other + ", back", y.distance(one, other, 0), y.distance(other, one, 0));
        }

        promise(18, "; NONE if there is none.");
        y.road(2, 7, 0);
        for (int told = 0; told < 2; told++) {
            Check.is("across", y.distance(6, 3, told), NONE);
            Check.is("back", y.distance(3, 6, told), NONE);
            Check.is("on this side", y.distance(6, 2, told), 93 + 94 + 95);
            Check.is("on that side", y.distance(7, 3, told), 97 + 98 + 99);
        }
        y.road(4, 3, 0);
        Check.is("a town without a road", y.distance(3, 4, 0), NONE);
        Check.is("to itself", y.distance(3, 3, 0) + y.distance(3, 3, 1), 0);
    }

    private static void distanceThrows() {
        LoafExits x = usedLand();
        promise(18, "Throws `IndexOutOfBoundsException` if there is no such town");
        refusedWithoutChange(x, IndexOutOfBoundsException.class, () -> x.distance(8, 0, 0));
        refusedWithoutChange(x, IndexOutOfBoundsException.class, () -> x.distance(0, 8, 1));
        refusedWithoutChange(x, IndexOutOfBoundsException.class, () -> x.distance(8, 8, 1));

        promise(18, "Throws `IllegalArgumentException` if what is not 0 or 1");
        onlyValues(0, 1, what -> new LoafExits().distance(0, 7, what));
        onlyValues(0, 1, what -> new LoafExits().distance(4, 4, what));
        refusedWithoutChange(x, IllegalArgumentException.class, () -> x.distance(0, 7, 2));
    }

    /** Exit 1 is at 6, to neighbour 3, closed; two loaves left by it, for 50 together. */
    private static LoafExits usedExits() {
        LoafExits x = new LoafExits();
        x.exit(2, 1);
        x.exit(6, 3);
        x.offer(3, 2, 8);
        x.send(3, 2);
        x.send(4, 2);
        x.turn(1);
        x.send(4, 2);
        return x;
    }

    private static void exitOf() {
        promise(19, "Returns a property of an exit.");
        LoafExits x = usedExits();
        int[] due = {6, 3, 0, 2, 50};
        for (int what = 0; what <= 4; what++) {
            Check.is("property " + what, x.exitOf(1, what), due[what]);
        }

        promise(19, "`exit`: its number");
        only(0, 1, IndexOutOfBoundsException.class, exit -> usedExits().exitOf(exit, 0));
        only(0, 7, IndexOutOfBoundsException.class, exit -> exitsAt(0, 0, 0, 0, 0, 0, 0, 0).exitOf(exit, 4));

        promise(19, "`what`: 0: its town");
        Check.is("of 0", x.exitOf(0, 0), 2);
        Check.is("town 0", oneExit(0).exitOf(0, 0), 0);
        Check.is("town 7", oneExit(7).exitOf(0, 0), 7);

        promise(19, "; 1: its neighbour");
        Check.is("of 0", x.exitOf(0, 1), 1);
        for (int k = 0; k < 4; k++) {
            Check.is("of four", exitsAt(7, 7, 7, 7).exitOf(k, 1), k);
        }

        promise(19, "; 2: 1 if it is open, otherwise 0");
        Check.is("open", x.exitOf(0, 2), 1);
        Check.is("closed", x.exitOf(1, 2), 0);
        x.turn(1);
        Check.is("opened", x.exitOf(1, 2), 1);

        promise(19, "; 3: loaves that left by it so far");
        Check.is("none", x.exitOf(0, 3), 0);
        x.settle();
        Check.is("settle begins nothing anew here", x.exitOf(1, 3), 2);
        x.send(6, 2);
        Check.is("one that left without a cost", x.exitOf(1, 3), 3);

        promise(19, "; 4: the costs of these, together");
        Check.is("none", x.exitOf(0, 4), 0);
        Check.is("without a cost", x.exitOf(1, 4), 50);
        x.road(5, 6, 99);
        Check.is("the costs of then", x.exitOf(1, 4), 50);
        x.send(5, 2);
        Check.is("and one of now", x.exitOf(1, 4), 149);
    }

    private static void exitOfThrows() {
        promise(19, "Throws `IndexOutOfBoundsException` if there is no such exit");
        LoafExits x = usedLand();
        refusedWithoutChange(x, IndexOutOfBoundsException.class, () -> x.exitOf(3, 0));
        refusedWithoutChange(x, IndexOutOfBoundsException.class, () -> x.exitOf(-1, 0));
        LoafExits none = new LoafExits();
        refusedWithoutChange(none, IndexOutOfBoundsException.class, () -> none.exitOf(0, 0));

        promise(19, "Throws `IllegalArgumentException` if what is not 0 to 4");
        onlyValues(0, 4, what -> oneExit(0).exitOf(0, what));
        refusedWithoutChange(x, IllegalArgumentException.class, () -> x.exitOf(2, 5));

        promise(19, "Returns the property.");
        int[] due = {4, 0, 1, 0, 0};
        for (int what = 0; what <= 4; what++) {
            Check.is("of a new one, " + what, oneExit(4).exitOf(0, what), due[what]);
        }
    }

    /** Neighbour 2 offers 9, 8, none, 6; bound 1; two loaves and then three came. */
    private static LoafExits usedNeighbours() {
        LoafExits x = new LoafExits();
        x.exit(0, 2);
        x.offer(2, 0, 9);
        x.offer(2, 1, 8);
        x.offer(2, 3, 6);
        x.bound(2, 1);
        send(x, 0, 0, 2);
        x.settle();
        send(x, 0, 3, 3);
        return x;
    }

    private static void neighbourOf() {
        LoafExits x = usedNeighbours();
        promise(20, "Returns a property of a neighbour.");
        int[] due = {9, 8, 0, 6, 1, 3, 2, 3};
        int[] beside = {0, 0, 0, 0, 20, 0, 0, 0};
        for (int what = 0; what <= 7; what++) {
            Check.is("property " + what, x.neighbourOf(2, what), due[what]);
            Check.is("property " + what + " of the next one", x.neighbourOf(3, what), beside[what]);
        }

        promise(20, "`neighbour`: 0 to 3");
        onlyNeighbours(neighbour -> new LoafExits().neighbourOf(neighbour, 0));
        onlyNeighbours(neighbour -> new LoafExits().neighbourOf(neighbour, 7));

        promise(20, "`what`: 0 to 3: the length that it offers to the house of this number, 0 without an offer");
        for (int house = 0; house < 4; house++) {
            Check.is("house " + house, x.neighbourOf(2, house), due[house]);
        }
        x.offer(2, 3, 0);
        Check.is("none any more", x.neighbourOf(2, 3), 0);

        promise(20, "; 4: its bound");
        Check.is("at first", x.neighbourOf(0, 4), 20);
        Check.is("changed", x.neighbourOf(2, 4), 1);

        promise(20, "; 5: loaves that came since the counts began");
        Check.is("since settle", x.neighbourOf(2, 5), 3);
        LoafExits y = usedNeighbours();
        y.send(0, 2);
        Check.is("a cold one does not come", y.neighbourOf(2, 5), 3);
        y.settle();
        Check.is("begun anew", y.neighbourOf(2, 5), 0);

        promise(20, "; 6: complaints since then");
        Check.is("since settle", x.neighbourOf(2, 6), 2);
        Check.is("begun anew", y.neighbourOf(2, 6), 0);

        promise(20, "; 7: complaints so far");
        Check.is("so far", x.neighbourOf(2, 7), 3);
        Check.is("not begun anew", y.neighbourOf(2, 7), 3);

        promise(20, "Returns the property.");
        for (int what = 0; what <= 7; what++) {
            Check.is("of a new land, " + what, new LoafExits().neighbourOf(1, what), beside[what]);
        }
    }

    private static void neighbourOfThrows() {
        LoafExits x = usedLand();
        promise(20, "Throws `IndexOutOfBoundsException` if there is no such neighbour");
        refusedWithoutChange(x, IndexOutOfBoundsException.class, () -> x.neighbourOf(4, 0));
        refusedWithoutChange(x, IndexOutOfBoundsException.class, () -> x.neighbourOf(-1, 4));

        promise(20, "Throws `IllegalArgumentException` if what is not 0 to 7");
        onlyValues(0, 7, what -> new LoafExits().neighbourOf(3, what));
        refusedWithoutChange(x, IllegalArgumentException.class, () -> x.neighbourOf(0, 8));
    }

    private static void choice() {
        promise(21, "Tells the choice of a town for a house.");
        LoafExits x = exitsAt(5, 5, 1, 7);
        x.offer(3, 0, 0);
        x.offer(3, 1, 4);
        int[] due = {0, 10, 2, 3, 0, 5};
        int[] ofTownTwo = {0, 30, 2, 2, 0, 3};
        for (int what = 0; what <= 5; what++) {
            Check.is("choice " + what, x.choice(4, 0, what), due[what]);
        }
        x.turn(2);
        for (int what = 0; what <= 5; what++) {
            Check.is("choice " + what + " of another town", x.choice(2, 0, what), ofTownTwo[what]);
        }
        Check.is("of another house", x.choice(2, 1, 0), 3);

        promise(21, "`town`: a town");
        onlyTowns(town -> oneExit(0).choice(town, 0, 0));
        onlyTowns(town -> oneExit(0).choice(town, 0, 4));

        promise(21, "`house`: 0 to 3");
        onlyHouses(house -> oneExit(0).choice(0, house, 0));
        onlyHouses(house -> oneExit(0).choice(0, house, 4));

        promise(21, "`what`: 0: the exit by which a loaf would leave now");
        LoafExits y = exitsAt(0, 0, 7, 0);
        y.set(1, 1);
        for (int k = 0; k < 7; k++) {
            Check.is("as send does then", y.choice(1, 0, 0), y.send(1, 0));
        }

        promise(21, ", 1: its cost");
        Check.is("here", y.choice(0, 0, 1), 0);
        Check.is("one road", y.choice(1, 0, 1), 10);
        y.road(0, 1, 99);
        y.road(6, 7, 99);
        Check.is("the dearest road", y.choice(1, 0, 1), 99);

        promise(21, ", NONE for both if none could be taken");
        LoafExits none = new LoafExits();
        Check.is("no exit", none.choice(0, 0, 0), NONE);
        Check.is("no cost", none.choice(0, 0, 1), NONE);
        LoafExits closed = oneExit(0);
        closed.turn(0);
        Check.is("closed: the exit", closed.choice(0, 0, 0), NONE);
        Check.is("closed: the cost", closed.choice(0, 0, 1), NONE);
    }

    private static void choiceCounts() {
        promise(21, "; 2: how many exits are the best ones");
        Check.is("none", new LoafExits().choice(0, 0, 2), 0);
        Check.is("eight", exitsAt(3, 3, 3, 3, 3, 3, 3, 3).choice(7, 0, 2), 8);
        Check.is("four of five", exitsAt(3, 5, 3, 5, 1).choice(4, 0, 2), 4);
        Check.is("one of five", exitsAt(3, 5, 3, 5, 1).choice(1, 0, 2), 1);

        promise(21, "; 3: how many could be taken");
        Check.is("none", new LoafExits().choice(0, 0, 3), 0);
        Check.is("eight", exitsAt(3, 2, 1, 0, 4, 5, 6, 7).choice(7, 0, 3), 8);
        LoafExits x = exitsAt(0, 1, 2, 3);
        Check.is("also those that are not the best", x.choice(0, 0, 3), 4);
        x.turn(1);
        Check.is("no closed one", x.choice(0, 0, 3), 3);
        x.offer(2, 0, 0);
        Check.is("none without a way", x.choice(0, 0, 3), 2);
        x.road(2, 3, 0);
        Check.is("none without a distance", x.choice(0, 0, 3), 1);

        promise(21, "; 4: how many loaves of the town to the house went out so far");
        LoafExits y = oneExit(7);
        y.send(0, 0);
        y.turn(0);
        y.send(0, 0);
        Check.is("a cold one did not go out", y.choice(0, 0, 4), 1);
        y.settle();
        Check.is("not begun anew", y.choice(0, 0, 4), 1);
        Check.is("of the house beside it", y.choice(0, 1, 4), 0);
        Check.is("of the town beside it", y.choice(1, 0, 4), 0);
    }

    private static void choiceNext() {
        promise(21, "; 5: the next town on the way of a loaf that would leave now");
        LoafExits x = oneExit(4);
        Check.is("up", x.choice(1, 0, 5), 2);
        Check.is("down", x.choice(6, 0, 5), 5);
        Check.is("at last", x.choice(3, 0, 5), 4);
        x.road(0, 7, 5);
        Check.is("by a new road", x.choice(0, 0, 5), 7);

        promise(21, ", the town itself if the exit is here");
        for (int town = 0; town < 8; town++) {
            Check.is("town " + town, oneExit(town).choice(town, 0, 5), town);
        }

        promise(21, ", NONE if none could be taken");
        Check.is("without exits", new LoafExits().choice(0, 0, 5), NONE);
        Check.is("without a way", x.choice(4, 1, 5), NONE);
        x.turn(0);
        Check.is("closed", x.choice(4, 0, 5), NONE);
        x.turn(0);
        x.road(4, 5, 0);
        x.road(3, 4, 0);
        Check.is("without a distance", x.choice(3, 0, 5), NONE);
        Check.is("here all the same", x.choice(4, 0, 5), 4);
    }

    private static void choiceThrows() {
        LoafExits x = usedLand();
        promise(21, "Throws `IndexOutOfBoundsException` if there is no such town or house");
        refusedWithoutChange(x, IndexOutOfBoundsException.class, () -> x.choice(8, 0, 0));
        refusedWithoutChange(x, IndexOutOfBoundsException.class, () -> x.choice(0, 4, 0));
        refusedWithoutChange(x, IndexOutOfBoundsException.class, () -> x.choice(7, -1, 4));

        promise(21, "Throws `IllegalArgumentException` if what is not 0 to 5");
        onlyValues(0, 5, what -> oneExit(0).choice(0, 0, what));
        onlyValues(0, 5, what -> new LoafExits().choice(7, 3, what));
        refusedWithoutChange(x, IllegalArgumentException.class, () -> x.choice(0, 0, 6));

        promise(21, "Returns the number.");
        LoafExits y = exitsAt(2, 2);
        int[] due = {1, 10, 2, 2, 1, 2};
        y.set(1, 1);
        y.send(3, 0);
        for (int what = 0; what <= 5; what++) {
            Check.is("choice " + what, y.choice(3, 0, what), due[what]);
        }
    }

    private static void reasons(LoafExits x, int town, int house, int... due) {
        for (int exit = 0; exit < due.length; exit++) {
            Check.is("exit " + exit, x.why(town, house, exit), due[exit]);
        }
    }

    private static void why() {
        promise(22, "Tells why an exit would not be taken by a loaf that would leave now.");
        LoafExits x = exitsAt(1, 1, 4);
        reasons(x, 0, 0, 0, 6, 5);
        x.set(1, 1);
        x.send(0, 0);
        reasons(x, 0, 0, 6, 0, 5);

        promise(22, "`town`: a town");
        onlyTowns(town -> oneExit(0).why(town, 0, 0));

        promise(22, "`house`: 0 to 3");
        onlyHouses(house -> oneExit(0).why(0, house, 0));

        promise(22, "`exit`: an exit");
        only(0, 2, IndexOutOfBoundsException.class, exit -> exitsAt(0, 0, 0).why(0, 0, exit));
        only(0, 7, IndexOutOfBoundsException.class, exit -> exitsAt(0, 1, 2, 3, 4, 5, 6, 7).why(0, 0, exit));

        promise(22, "Returns 0 if it would be");
        reasons(oneExit(7), 0, 0, 0);
        reasons(exitsAt(7, 6, 5, 4, 3, 2, 1, 0), 0, 0, 5, 5, 5, 5, 5, 5, 5, 0);
    }

    private static void whyInOrder() {
        promise(22, "; otherwise the first one of these that is so");
        LoafExits all = new LoafExits();
        all.exit(7, 0);
        all.turn(0);
        all.road(6, 7, 0);
        reasons(all, 0, 0, 1);
        all.turn(0);
        reasons(all, 0, 0, 2);
        all.offer(0, 0, 9);
        reasons(all, 0, 0, 3);
        all.exit(0, 1);
        all.offer(1, 0, 8);
        reasons(all, 0, 0, 3, 0);
        all.road(6, 7, 1);
        reasons(all, 0, 0, 4, 0);
        all.offer(0, 0, 8);
        reasons(all, 0, 0, 5, 0);
        all.exit(0, 1);
        reasons(all, 0, 0, 5, 0, 6);

        promise(22, ": 1: it is closed");
        LoafExits closed = exitsAt(0, 0);
        closed.turn(0);
        reasons(closed, 0, 0, 1, 0);

        promise(22, "; 2: its neighbour offers no way");
        LoafExits noWay = exitsAt(0, 0);
        noWay.offer(1, 0, 0);
        reasons(noWay, 0, 0, 0, 2);
        reasons(noWay, 0, 3, 2, 2);

        promise(22, "; 3: its town has no distance");
        LoafExits apart = exitsAt(0, 7);
        apart.road(3, 4, 0);
        reasons(apart, 3, 0, 0, 3);
        reasons(apart, 4, 0, 3, 0);

        promise(22, "; 4: it is not a good one");
        LoafExits good = exitsAt(1, 0);
        good.offer(0, 0, 6);
        reasons(good, 1, 0, 4, 0);
        good.set(0, 1);
        reasons(good, 1, 0, 0, 4);

        promise(22, "; 5: it is a good one, but not one of the best");
        LoafExits best = exitsAt(2, 0);
        reasons(best, 0, 0, 5, 0);
        best.set(0, 1);
        best.offer(1, 0, 6);
        reasons(best, 1, 0, 0, 5);

        promise(22, "; 6: it is one of the best.");
        reasons(exitsAt(2, 0, 2), 1, 0, 0, 6, 6);
    }

    private static void whyThrows() {
        LoafExits x = usedLand();
        promise(22, "Throws `IndexOutOfBoundsException` if there is no such town, house or exit");
        refusedWithoutChange(x, IndexOutOfBoundsException.class, () -> x.why(8, 0, 0));
        refusedWithoutChange(x, IndexOutOfBoundsException.class, () -> x.why(0, 4, 0));
        refusedWithoutChange(x, IndexOutOfBoundsException.class, () -> x.why(0, 0, 3));
        refusedWithoutChange(x, IndexOutOfBoundsException.class, () -> x.why(0, 0, -1));
        Check.noIndex("without exits", () -> new LoafExits().why(0, 0, 0));
    }

    private static void countOfLand() {
        promise(23, "Returns a number.");
        LoafExits x = usedLand();
        int[] due = {8, 3, 2, 4, 9, 1, 194, 7, 16, 6};
        for (int what = 0; what <= 9; what++) {
            Check.is("count " + what, x.count(what), due[what]);
        }

        promise(23, "`what`: 0: roads");
        LoafExits full = new LoafExits();
        int roads = 7;
        for (int one = 0; one < 8; one++) {
            for (int other = one + 2; other < 8; other++) {
                full.road(other, one, 99);
                roads++;
                Check.is("with one more", full.count(0), roads);
            }
        }
        Check.is("all", full.count(0), 28);
        for (int one = 0; one < 8; one++) {
            for (int other = 0; other < one; other++) {
                full.road(one, other, 1);
                Check.is("a road of the cost 1 is one", full.count(0), roads);
                full.road(one, other, 0);
                roads--;
            }
        }
        Check.is("none", full.count(0), 0);

        LoafExits y = new LoafExits();
        promise(23, "; 1: exits");
        for (int exit = 0; exit < 8; exit++) {
            y.exit(exit, 0);
            Check.is("exits", y.count(1), exit + 1);
        }

        promise(23, "; 2: open ones");
        Check.is("all", y.count(2), 8);
        for (int exit = 7; exit >= 0; exit--) {
            y.turn(exit);
            Check.is("open ones", y.count(2), exit);
        }
        Check.is("exits still", y.count(1), 8);

        promise(23, "; 3: offers");
        for (int pair = 0; pair < 16; pair++) {
            y.offer(pair / 4, pair % 4, 9);
            Check.is("offers", y.count(3), pair + 1);
        }
        y.offer(3, 3, 1);
        Check.is("a changed one is still one", y.count(3), 16);
        y.offer(3, 3, 0);
        Check.is("one less", y.count(3), 15);
    }

    private static void countOfLoaves() {
        LoafExits x = oneExit(0);
        send(x, 3, 0, 2);
        x.send(3, 1);
        promise(23, "; 4: loaves sent so far");
        Check.is("cold ones too", x.count(4), 3);
        x.settle();
        Check.is("not begun anew", x.count(4), 3);

        promise(23, "; 5: those that grew cold");
        Check.is("one", x.count(5), 1);
        x.offer(0, 1, 1);
        Check.is("it stays cold", x.count(5), 1);

        promise(23, "; 6: costs of all loaves so far");
        Check.is("of two", x.count(6), 60);
        x.road(0, 3, 1);
        Check.is("the costs of then", x.count(6), 60);
        x.send(3, 0);
        Check.is("and one of now", x.count(6), 61);

        promise(23, "; 7: complaints so far");
        LoafExits y = exitsAt(0, 7);
        y.bound(0, 0);
        y.bound(1, 0);
        y.send(0, 0);
        send(y, 7, 0, 2);
        Check.is("of all neighbours", y.count(7), 3);
        y.settle();
        y.send(0, 0);
        Check.is("not begun anew", y.count(7), 4);

        promise(23, "; 8: pairs of a town and a house for which no exit could be taken");
        LoafExits z = oneExit(7);
        Check.is("one house of four", z.count(8), 24);
        z.offer(0, 3, 9);
        Check.is("two houses", z.count(8), 16);
        z.road(6, 7, 0);
        Check.is("for town 7 alone", z.count(8), 30);
        z.turn(0);
        Check.is("closed", z.count(8), 32);
        LoafExits every = oneExit(0);
        for (int house = 1; house < 4; house++) {
            every.offer(0, house, 1);
        }
        Check.is("none", every.count(8), 0);

        promise(23, "; 9: saved states");
        LoafExits w = new LoafExits();
        for (int calls = 0; calls < 8; calls++) {
            Check.is("saved", w.count(9), Math.min(calls, 6));
            w.settle();
        }
        w.undo();
        Check.is("one less", w.count(9), 5);
    }

    private static void countThrows() {
        promise(23, "Returns the number.");
        int[] due = {7, 0, 0, 0, 0, 0, 0, 0, 32, 0};
        for (int what = 0; what <= 9; what++) {
            Check.is("of a new land, " + what, new LoafExits().count(what), due[what]);
        }

        promise(23, "Throws `IllegalArgumentException` if what is not 0 to 9");
        onlyValues(0, 9, what -> new LoafExits().count(what));
        LoafExits x = usedLand();
        refusedWithoutChange(x, IllegalArgumentException.class, () -> x.count(10));
        refusedWithoutChange(x, IllegalArgumentException.class, () -> x.count(-1));
    }
}
