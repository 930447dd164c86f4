/** The sentences of "What it is", "The public face" and "Terms", one after the other, without the input text. */
final class TermsEdges extends Edges {
    private TermsEdges() {
    }

    static void all() {
        test(TermsEdges::towns);
        test(TermsEdges::distances);
        test(TermsEdges::exits);
        test(TermsEdges::offers);
        test(TermsEdges::couldBeTaken);
        test(TermsEdges::bestOnes);
        test(TermsEdges::turns);
        test(TermsEdges::ways);
        test(TermsEdges::complaints);
        test(TermsEdges::settings);
        test(TermsEdges::slots);
        test(TermsEdges::savedStates);
        test(TermsEdges::exceptions);
        test(TermsEdges::constants);
        test(TermsEdges::looks);
        test(TermsEdges::lastCall);
    }

    private static void towns() {
        terms("27", "All numbers are integers, but for a share.");
        LoafExits half = oneExit(0);
        half.send(0, 0);
        half.send(0, 1);
        Check.isTrue("a share of one half", half.hotShare() == 0.5);

        terms("2, 3, 8, 17, 18, 21, 22, 24, 26", "There are 8 towns, numbered from 0.");
        onlyTowns(town -> new LoafExits().roadOf(town, town));
        Check.is("the last one from the first one", new LoafExits().distance(0, 7, 0), 70);

        terms("2, 17", "Between two towns there is a road with a cost of 1 to 99, the same in both directions, or none");
        LoafExits x = new LoafExits();
        for (int pair = 0; pair < 64; pair++) {
            int one = pair / 8;
            int other = pair % 8;
            int cost = pair % 2 == 0 ? 99 : 1;
            if (one != other) {
                x.road(one, other, cost);
                Check.is("there", x.roadOf(one, other), cost);
                Check.is("back", x.roadOf(other, one), cost);
            }
        }
        x.road(6, 1, 0);
        Check.is("none there", x.roadOf(6, 1), 0);
        Check.is("none back", x.roadOf(1, 6), 0);

        terms("1, 17", "; at first there are roads of the cost 10 between the towns k and k and 1 (but not between 7 and 0).");
        for (int pair = 0; pair < 64; pair++) {
            int apart = pair / 8 - pair % 8;
            int due = apart == 1 || apart == -1 ? 10 : 0;
            Check.is("road " + pair / 8 + " " + pair % 8, new LoafExits().roadOf(pair / 8, pair % 8), due);
        }
    }

    private static void distances() {
        terms("18", "The distance of two towns is the least cost of a way of roads between them");
        LoafExits x = new LoafExits();
        x.road(0, 3, 30);
        Check.is("two ways as cheap", x.distance(0, 3, 0), 30);
        x.road(0, 3, 29);
        Check.is("the shorter one", x.distance(0, 4, 0), 39);
        x.road(2, 4, 1);
        Check.is("over a higher one and back", x.distance(0, 3, 1), 29);
        Check.is("over the cheap one", x.distance(0, 4, 1), 21);
        Check.is("over a town with a higher number", x.distance(2, 3, 0), 10);
        x.road(2, 3, 99);
        Check.is("over a town with a higher number", x.distance(2, 3, 0), 11);

        terms("18", ", 0 of a town to itself");
        for (int town = 0; town < 8; town++) {
            x.road(town, (town + 1) % 8, 1);
            Check.is("told by 0", x.distance(town, town, 0), 0);
            Check.is("told by 1", x.distance(town, town, 1), 0);
        }

        terms("18", "; there may be none.");
        LoafExits y = new LoafExits();
        y.road(6, 7, 0);
        for (int town = 0; town < 7; town++) {
            Check.is("to 7, told by 0", y.distance(town, 7, 0), NONE);
            Check.is("to 7, told by 1", y.distance(town, 7, 1), NONE);
        }
        y.road(7, 0, 99);
        Check.is("there is one again", y.distance(6, 7, 0), 159);
    }

    private static void exits() {
        terms("3", "There are at most 8 exits");
        LoafExits x = exitsAt(0, 0, 0, 0, 0, 0, 0, 0);
        Check.is("8", x.count(1), 8);
        Check.noState("a ninth one", () -> x.exit(0, 0));
        x.turn(3);
        Check.noState("closed ones are exits too", () -> x.exit(0, 0));

        terms("3, 19", ", numbered from 0 in the order in which they came");
        LoafExits y = new LoafExits();
        for (int k = 0; k < 8; k++) {
            y.exit(7 - k, k % 4);
        }
        for (int k = 0; k < 8; k++) {
            Check.is("the town of " + k, y.exitOf(k, 0), 7 - k);
        }

        terms("3, 19", "; an exit is at a town, and leads to a neighbour, 0 to 3");
        for (int k = 0; k < 8; k++) {
            Check.is("the neighbour of " + k, y.exitOf(k, 1), k % 4);
        }
        Check.noIndex("neighbour 4", () -> new LoafExits().exit(0, 4));
        Check.noIndex("town 8", () -> new LoafExits().exit(8, 0));

        terms("3, 4, 19", "; it is open or closed.");
        LoafExits z = oneExit(0);
        for (int k = 0; k < 4; k++) {
            Check.is("open or closed", z.exitOf(0, 2), 1 - k % 2);
            z.turn(0);
        }
    }

    private static void offers() {
        terms("5, 20", "A neighbour offers a way to each of the houses 0 to 3");
        LoafExits x = new LoafExits();
        for (int pair = 0; pair < 16; pair++) {
            Check.is("none", x.offer(pair / 4, pair % 4, 1 + pair % 9), 0);
        }
        for (int pair = 0; pair < 16; pair++) {
            Check.is("of neighbour " + pair / 4 + " to house " + pair % 4, x.neighbourOf(pair / 4, pair % 4), 1 + pair % 9);
        }

        terms("5", ", of some length, 1 to 9");
        LoafExits y = exitsAt(0, 0);
        y.offer(0, 0, 9);
        y.offer(1, 0, 1);
        Check.is("1 is shorter than 9", y.send(0, 0), 1);
        Check.noArgument("10", () -> y.offer(0, 0, 10));

        terms("5", ", or none");
        y.offer(1, 0, 0);
        Check.is("none is not shorter than 9", y.send(0, 0), 0);
        y.offer(0, 0, 0);
        Check.is("none at all", y.send(0, 0), NONE);

        terms("1, 5", "; at first none.");
        Check.is("offers", new LoafExits().count(3), 0);
        LoafExits z = new LoafExits();
        z.exit(0, 3);
        Check.is("an exit alone is no offer", z.send(0, 0), NONE);
    }

    private static void couldBeTaken() {
        terms("8, 21", "For a town and a house, exits that could be taken are those that are open");
        LoafExits x = exitsAt(0, 7);
        x.turn(0);
        Check.is("the closed one is not", x.choice(0, 0, 3), 1);
        Check.is("so the far one is chosen", x.send(0, 0), 1);
        x.turn(1);
        Check.is("none is", x.send(0, 0), NONE);

        terms("8, 21", ", whose neighbour offers a way to the house");
        LoafExits y = exitsAt(0, 7);
        y.offer(0, 0, 0);
        y.offer(0, 1, 1);
        Check.is("the one without a way is not", y.choice(0, 0, 3), 1);
        Check.is("so the far one is chosen", y.send(0, 0), 1);
        Check.is("to the other house the near one", y.send(0, 1), 0);
        Check.is("to a third one none", y.send(0, 2), NONE);

        terms("8, 21", ", and whose town has a distance from this town.");
        LoafExits z = exitsAt(0, 7);
        z.offer(0, 0, 1);
        z.road(4, 5, 0);
        Check.is("the one beyond is not", z.choice(5, 0, 3), 1);
        Check.is("so the longer one is chosen", z.send(5, 0), 1);
        z.road(6, 7, 0);
        Check.is("none is", z.send(5, 0), NONE);
        Check.is("from its own town it is", z.send(7, 0), 1);
    }

    private static void bestOnes() {
        terms("8, 21, 22", "Of these, with setting 0 as 0, those with the shortest offer are the good ones");
        LoafExits x = exitsAt(0, 7, 7);
        x.offer(0, 0, 2);
        x.offer(1, 0, 1);
        x.offer(2, 0, 1);
        Check.is("the far ones", x.choice(0, 0, 0), 1);
        Check.is("not good", x.why(0, 0, 0), 4);
        x.turn(1);
        x.turn(2);
        Check.is("the shortest one that could be taken", x.choice(0, 0, 0), 0);

        terms("8, 21, 22", ", and of the good ones those that are nearest (by distance of their towns) are the best ones.");
        LoafExits y = exitsAt(6, 2, 4, 2);
        Check.is("the nearest one", y.choice(1, 0, 0), 1);
        Check.is("two best ones", y.choice(1, 0, 2), 2);
        Check.is("good, not best", y.why(1, 0, 2), 5);
        y.road(1, 6, 9);
        Check.is("by distance, not by numbers of towns", y.choice(1, 0, 0), 0);
        y.road(1, 6, 10);
        Check.is("three as near", y.choice(1, 0, 2), 3);

        terms("8, 21, 22", "With setting 0 as 1 the nearest ones are the good ones");
        LoafExits z = exitsAt(7, 1, 1);
        z.set(0, 1);
        z.offer(0, 0, 1);
        z.offer(1, 0, 9);
        Check.is("the near ones", z.choice(0, 0, 0), 2);
        Check.is("not good", z.why(0, 0, 0), 4);
        z.turn(1);
        z.turn(2);
        Check.is("the nearest one that could be taken", z.choice(0, 0, 0), 0);

        terms("8, 21, 22", ", and of these those with the shortest offer the best ones.");
        LoafExits w = exitsAt(3, 3, 5, 5);
        w.set(0, 1);
        w.offer(0, 0, 6);
        w.offer(2, 0, 5);
        Check.is("two best ones of three", w.choice(4, 0, 2), 3);
        Check.is("good, not best", w.why(4, 0, 0), 5);
        w.offer(2, 0, 4);
        Check.is("the shortest of the near ones", w.choice(4, 0, 0), 2);
        Check.is("one best one", w.choice(4, 0, 2), 1);
    }

    private static void turns() {
        terms("8, 21", "With setting 1 as 0 the best one with the lowest number is chosen");
        LoafExits x = exitsAt(7, 3, 3, 3);
        for (int k = 0; k < 4; k++) {
            Check.is("always", x.send(2, 0), 1);
        }
        x.turn(1);
        Check.is("the lowest open one", x.send(2, 0), 2);

        terms("8, 21", "; with setting 1 as 1 the best ones are taken by turns: the town counts its loaves to that house that went out so far");
        LoafExits y = exitsAt(3, 3);
        y.offer(0, 1, 5);
        y.offer(1, 1, 5);
        y.set(1, 1);
        Check.is("of town 2 to house 0", y.send(2, 0), 0);
        Check.is("another town has its own count", y.send(4, 0), 0);
        Check.is("another house has its own count", y.send(2, 1), 0);
        Check.is("the second one", y.send(2, 0), 1);
        y.set(1, 0);
        Check.is("without turns", y.send(2, 0), 0);
        y.set(1, 1);
        Check.is("that one counts too", y.send(2, 0), 1);
        y.turn(0);
        y.turn(1);
        Check.is("a cold one", y.send(2, 0), NONE);
        y.turn(0);
        y.turn(1);
        Check.is("does not count", y.send(2, 0), 0);
        y.settle();
        Check.is("settle does not begin it anew", y.send(2, 0), 1);

        terms("8, 21", ", and the one of the rank (this count modulo how many best ones there are), by their numbers, is chosen.");
        LoafExits z = exitsAt(3, 7, 3, 0, 3);
        z.set(1, 1);
        int[] three = {0, 2, 4};
        for (int k = 0; k < 10; k++) {
            Check.is("of three, loaf " + k, z.send(3, 0), three[k % 3]);
        }
        z.turn(2);
        int[] two = {0, 4};
        for (int k = 10; k < 15; k++) {
            Check.is("of two, loaf " + k, z.send(3, 0), two[k % 2]);
        }
        z.turn(4);
        Check.is("of one", z.send(3, 0), 0);
        z.turn(0);
        Check.is("the next best one", z.send(3, 0), 3);
    }

    private static void ways() {
        terms("8", "A loaf of a town to a house leaves by the exit that is chosen");
        LoafExits x = exitsAt(7, 4, 4);
        int chosen = x.choice(2, 0, 0);
        Check.is("the exit", x.send(2, 0), chosen);
        for (int exit = 0; exit < 3; exit++) {
            Check.is("loaves of " + exit, x.exitOf(exit, 3), exit == chosen ? 1 : 0);
        }

        terms("8, 19, 21, 23", "; its cost is the distance.");
        Check.is("as chosen", x.choice(2, 0, 1), x.distance(2, 4, 0));
        Check.is("of the exit", x.exitOf(1, 4), 20);
        x.send(4, 0);
        Check.is("0 if the exit is here", x.exitOf(1, 4), 20);
        x.road(2, 4, 3);
        x.send(2, 0);
        Check.is("the distance of then", x.count(6), 23);

        terms("8, 21", "On its way the loaf goes on to this exit (towns on the way choose nothing)");
        LoafExits y = exitsAt(4, 4);
        y.set(1, 1);
        y.send(3, 0);
        Check.is("the town on the way would take the other one", y.choice(3, 0, 0), 1);
        Check.is("the loaf takes its own", y.send(2, 0), 0);
        Check.is("it does not count as one of the town on the way", y.choice(3, 0, 4), 1);
        Check.is("nor as one of the exit's town", y.choice(4, 0, 4), 0);

        terms("21", ", from town to town, by the road that is on a cheapest way to the town of its exit");
        LoafExits z = oneExit(5);
        z.road(0, 5, 51);
        Check.is("not by the straight road", z.choice(0, 0, 5), 1);
        z.road(0, 5, 49);
        Check.is("by the straight road", z.choice(0, 0, 5), 5);
        z.road(1, 5, 38);
        Check.is("over 1 for 48", z.choice(0, 0, 5), 1);
        z.road(0, 7, 1);
        Check.is("over 7 and 6 for 21", z.choice(0, 0, 5), 7);
        Check.is("and on", z.choice(7, 0, 5), 6);

        terms("21", ", to the town with the lowest number of those that are next on such ways.");
        LoafExits w = oneExit(7);
        w.road(0, 7, 70);
        Check.is("1 of 1 and 7", w.choice(0, 0, 5), 1);
        w.road(0, 4, 40);
        Check.is("1 of 1, 4 and 7", w.choice(0, 0, 5), 1);
        w.road(0, 1, 11);
        Check.is("4 of 4 and 7", w.choice(0, 0, 5), 4);
        w.road(0, 4, 41);
        Check.is("7 alone", w.choice(0, 0, 5), 7);
        LoafExits back = oneExit(0);
        back.road(7, 0, 70);
        Check.is("0 of 0 and 6", back.choice(7, 0, 5), 0);
    }

    private static LoafExits boundedTo(int loaves) {
        LoafExits x = oneExit(0);
        x.bound(0, loaves);
        return x;
    }

    private static void complaints() {
        terms("6, 20", "Each neighbour has a bound of loaves, 0 to 99");
        onlyValues(0, 99, loaves -> boundedTo(loaves).neighbourOf(0, 4));
        LoafExits most = boundedTo(99);
        send(most, 0, 0, 99);
        Check.is("99 are within 99", most.count(7), 0);
        most.send(0, 0);
        Check.is("100 are not", most.count(7), 1);
        LoafExits least = boundedTo(0);
        least.send(0, 0);
        Check.is("one is beyond 0", least.count(7), 1);

        terms("1, 6, 20", ", at first 20.");
        LoafExits x = oneExit(0);
        send(x, 0, 0, 20);
        Check.is("20 are within 20", x.count(7), 0);
        x.send(0, 0);
        Check.is("21 are not", x.count(7), 1);
        for (int neighbour = 0; neighbour < 4; neighbour++) {
            Check.is("of each", new LoafExits().neighbourOf(neighbour, 4), 20);
        }

        terms("8, 20", "Each loaf that comes to a neighbour beyond its bound");
        LoafExits y = exitsAt(0, 7);
        y.exit(4, 0);
        y.bound(0, 2);
        y.send(0, 0);
        y.send(4, 0);
        Check.is("two", y.neighbourOf(0, 6), 0);
        y.send(0, 0);
        Check.is("the third one, by either exit", y.neighbourOf(0, 6), 1);
        send(y, 7, 0, 3);
        Check.is("not of the other neighbour", y.neighbourOf(1, 6), 0);
        y.send(4, 0);
        Check.is("the fourth one", y.neighbourOf(0, 6), 2);

        terms("6, 8", "of then");
        LoafExits z = boundedTo(5);
        send(z, 0, 0, 3);
        z.bound(0, 1);
        Check.is("a lower bound makes none of those that came", z.neighbourOf(0, 6), 0);
        z.send(0, 0);
        Check.is("the next one is beyond it", z.neighbourOf(0, 6), 1);
        z.bound(0, 5);
        z.send(0, 0);
        Check.is("the fifth one is within 5", z.neighbourOf(0, 6), 1);

        terms("8, 9", "(since the counts began)");
        z.settle();
        send(z, 0, 0, 5);
        Check.is("five anew", z.neighbourOf(0, 6), 0);
        z.send(0, 0);
        Check.is("the sixth one", z.neighbourOf(0, 6), 1);

        terms("8, 20, 23", "is a complaint");
        Check.is("so far of the neighbour", z.neighbourOf(0, 7), 2);
        Check.is("so far", z.count(7), 2);

        terms("6, 9", ", and stays one.");
        z.bound(0, 99);
        Check.is("with a higher bound, since then", z.neighbourOf(0, 6), 1);
        Check.is("with a higher bound, so far", z.neighbourOf(0, 7), 2);
        z.settle();
        z.turn(0);
        Check.is("with begun counts", z.neighbourOf(0, 7), 2);
    }

    private static void settings() {
        terms("7, 8", "0: 0 for the shortest offer first, 1 for the nearest exit first, at first 0");
        LoafExits x = exitsAt(7, 0);
        x.offer(0, 0, 4);
        Check.is("at first the shortest", x.choice(0, 0, 0), 0);
        Check.is("it was 0", x.set(0, 1), 0);
        Check.is("the nearest", x.choice(0, 0, 0), 1);
        x.set(0, 0);
        Check.is("the shortest again", x.choice(0, 0, 0), 0);

        terms("7, 8", "1: equal exits by turns, 0 or 1, at first 0.");
        LoafExits y = exitsAt(0, 0);
        y.send(0, 0);
        Check.is("at first not by turns", y.choice(0, 0, 0), 0);
        Check.is("it was 0", y.set(1, 1), 0);
        Check.is("by turns", y.choice(0, 0, 0), 1);
        y.set(1, 0);
        Check.is("not by turns again", y.choice(0, 0, 0), 0);
        Check.noArgument("2", () -> y.set(1, 2));
    }

    private static void slots() {
        terms("14, 15", "There are two slots");
        LoafExits x = new LoafExits();
        x.keep(0);
        x.send(0, 0);
        x.keep(1);
        Check.is("each has its own", x.goBack(0), 0);
        Check.is("each has its own", x.goBack(1), 1);
        Check.noArgument("a third one", () -> x.keep(2));

        terms("14, 15", "; a snapshot is all but the buffer, the slots and the saved states.");
        LoafExits y = usedLand();
        y.keep(0);
        long kept = y.digest();
        y.road(0, 7, 1);
        y.road(1, 2, 0);
        y.exit(3, 3);
        y.turn(0);
        y.turn(2);
        y.offer(0, 0, 1);
        y.offer(3, 1, 1);
        y.bound(0, 0);
        y.set(0, 1);
        y.set(1, 0);
        send(y, 0, 0, 4);
        y.send(0, 1);
        y.settle();
        send(y, 0, 0, 2);
        y.goBack(0);
        Check.is("all is as it was kept", y.digest(), kept);
        LoafExits z = new LoafExits();
        z.keep(0);
        write(z, "x0;x");
        z.keep(1);
        z.settle();
        z.goBack(0);
        Check.is("the buffer stays", z.firstError(), 4);
        Check.is("the saved states stay, and one more", z.count(9), 2);
        Check.takes("the slots stay", () -> z.goBack(1));
    }

    private static void savedStates() {
        terms("2 to 9, 13, 15, 16", "Each method that is marked \"undoable\" and does not throw an exception saves the state from before it");
        LoafExits x = oneExit(0);
        int saved = x.count(9);
        x.road(0, 1, 1);
        x.turn(0);
        x.bound(0, 1);
        Check.is("three more", x.count(9), saved + 3);
        Check.noArgument("refused", () -> x.road(0, 0, 1));
        Check.noIndex("refused", () -> x.turn(1));
        Check.noArgument("refused", () -> x.run());
        Check.noState("refused", () -> x.goBack(0));
        Check.is("no more", x.count(9), saved + 3);
        x.append('x');
        x.clearBuffer();
        x.keep(0);
        x.firstError();
        Check.is("none of methods that are not marked", x.count(9), saved + 3);

        terms("2, 5, 6, 7, 9, 13, 15, 16", "(also if it changes nothing)");
        LoafExits same = new LoafExits();
        undoable(same, () -> same.road(0, 1, 10));
        undoable(same, () -> same.road(0, 7, 0));
        undoable(same, () -> same.offer(0, 0, 0));
        undoable(same, () -> same.bound(0, 20));
        undoable(same, () -> same.set(0, 0));
        undoable(same, () -> same.settle());
        same.keep(0);
        undoable(same, () -> same.goBack(0));
        write(same, "x0");
        same.run();
        Check.is("run", same.count(9), 1);

        terms("16", ": all, also what is counted so far, but the buffer, the slots and the saved states.");
        allIsRestored();

        terms("16, 23", "At most 6 states are saved");
        LoafExits y = new LoafExits();
        for (int calls = 1; calls <= 20; calls++) {
            y.send(0, 0);
            Check.is("behind call " + calls, y.count(9), Math.min(calls, 6));
        }

        terms("16", "; the oldest one is dropped first.");
        for (int left = 5; left >= 0; left--) {
            Check.is("undo", y.undo(), left);
            Check.is("loaves", y.count(4), 14 + left);
        }
        Check.noState("the oldest ones were dropped", () -> y.undo());
        for (int calls = 0; calls < 7; calls++) {
            y.send(0, 0);
        }
        for (int calls = 0; calls < 6; calls++) {
            y.undo();
        }
        Check.is("one of seven is left", y.count(4), 15);
    }

    private static void allIsRestored() {
        LoafExits x = exitsAt(0, 0);
        x.set(1, 1);
        x.bound(0, 0);
        send(x, 3, 0, 3);
        x.settle();
        send(x, 3, 0, 2);
        long before = told(x);
        x.send(3, 0);
        x.send(3, 1);
        x.settle();
        x.keep(1);
        write(x, "s3>0*5;r07=1;x0");
        x.run();
        write(x, "r0");
        x.exit(7, 3);
        Check.isTrue("changed", told(x) != before);
        for (int k = 0; k < 5; k++) {
            x.undo();
        }
        Check.is("all numbers as before", told(x), before);
        Check.is("the next turn as before", x.send(3, 0), 1);
        Check.is("the buffer is left", x.clearBuffer(), 2);
        Check.is("the slot is left", x.goBack(1), 7);
    }

    /** The numbers of a land in one, without its saved states. */
    private static long told(LoafExits x) {
        long told = x.count(1);
        for (int what = 2; what < 9; what++) {
            told = told * 31 + x.count(what);
        }
        for (int k = 0; k < 5 * x.count(1); k++) {
            told = told * 31 + x.exitOf(k / 5, k % 5);
        }
        for (int k = 0; k < 32; k++) {
            told = told * 31 + x.neighbourOf(k / 8, k % 8);
        }
        for (int k = 0; k < 32 * 6; k++) {
            told = told * 31 + x.choice(k / 24, k / 6 % 4, k % 6);
        }
        for (int k = 0; k < 64; k++) {
            told = told * 31 + x.roadOf(k / 8, k % 8);
            told = told * 31 + x.distance(k / 8, k % 8, 1);
        }
        return told;
    }

    private static void exceptions() {
        terms("2 to 8, 10, 13 to 26", "A call that throws an exception changes nothing.");
        LoafExits x = usedLand();
        long before = x.digest();
        Check.noArgument("road", () -> x.road(0, 7, 100));
        Check.noArgument("road", () -> x.road(7, 7, 3));
        Check.noIndex("exit", () -> x.exit(0, 4));
        Check.noIndex("turn", () -> x.turn(3));
        Check.noArgument("offer", () -> x.offer(0, 0, 10));
        Check.noArgument("bound", () -> x.bound(0, 100));
        Check.noArgument("set", () -> x.set(0, 2));
        Check.noIndex("send", () -> x.send(0, 4));
        Check.noArgument("append", () -> x.append(127));
        Check.noArgument("run", () -> x.run());
        Check.noArgument("keep", () -> x.keep(2));
        Check.noState("goBack", () -> x.goBack(0));
        Check.noArgument("ifRoad", () -> x.ifRoad(0, 7, 100));
        Check.noArgument("idle", () -> x.idle(7, 7));
        Check.is("the digest", x.digest(), before);
        Check.is("undo opens exit 0 again", x.undo() + x.exitOf(0, 2), 6);

        terms("2, 3, 5 to 8, 10, 15, 18 to 21, 24, 26",
            "If several exceptions apply, the one that is named first in the throws clause is thrown.");
        LoafExits full = exitsAt(0, 0, 0, 0, 0, 0, 0, 0);
        Check.noIndex("road: no town, the same", () -> full.road(8, 8, 3));
        Check.noIndex("road: no town, cost", () -> full.road(0, -1, 100));
        Check.noIndex("exit: no town, 8 of them", () -> full.exit(8, 0));
        Check.noIndex("exit: no neighbour, 8 of them", () -> full.exit(0, 4));
        Check.noIndex("offer: no neighbour, length", () -> full.offer(4, 0, 10));
        Check.noIndex("offer: no house, length", () -> full.offer(0, 4, 10));
        Check.noIndex("bound: no neighbour, loaves", () -> full.bound(-1, -1));
        Check.noIndex("set: no setting, value", () -> full.set(2, 2));
        Check.noIndex("distance: no town, what", () -> full.distance(0, 8, 2));
        Check.noIndex("exitOf: no exit, what", () -> full.exitOf(8, 5));
        Check.noIndex("neighbourOf: no neighbour, what", () -> full.neighbourOf(4, 8));
        Check.noIndex("choice: no town, what", () -> full.choice(8, 0, 6));
        Check.noIndex("choice: no house, what", () -> full.choice(0, 4, 6));
        Check.noIndex("ifRoad: no town, the same", () -> full.ifRoad(8, 8, 3));
        Check.noIndex("ifRoad: no town, cost", () -> full.ifRoad(0, 8, 100));
        Check.noIndex("idle: no town, the same", () -> full.idle(-1, -1));
        Check.noArgument("goBack: no slot, which has no snapshot", () -> full.goBack(2));
        write(full, "~".repeat(60));
        Check.noArgument("append: no code, full", () -> full.append(32));
        send(full, 0, 1, 9999);
        Check.noIndex("send: no town, 9999 were sent", () -> full.send(8, 0));
        Check.noIndex("send: no house, 9999 were sent", () -> full.send(0, 4));
    }

    private static void constants() {
        terms("8, 18, 21, 25, 26", "The constants: `NONE = -1`: There is nothing to return.");
        LoafExits x = new LoafExits();
        Check.is("the constant", LoafExits.NONE, -1);
        Check.is("send", x.send(0, 0), -1);
        Check.is("choice", x.choice(0, 0, 0), -1);
        Check.is("dearest", x.dearest(), -1);
        Check.is("idle", x.idle(0, 1), -1);
        x.road(0, 1, 0);
        Check.is("distance", x.distance(0, 1, 0), -1);
    }

    private static void looks() {
        LoafExits x = usedLand();
        terms("17 to 23", "Ahead of the calls `roadOf`, `distance`, `exitOf`, `neighbourOf`, `choice`, `why`, `count` the interface says: ---- looks; nothing is changed.");
        changesNothing(x, () -> x.roadOf(0, 7));
        changesNothing(x, () -> x.distance(0, 6, 0) + x.distance(0, 6, 1));
        changesNothing(x, () -> x.exitOf(1, 4));
        changesNothing(x, () -> x.neighbourOf(1, 7));
        for (int k = 0; k < 6; k++) {
            int what = k;
            changesNothing(x, () -> x.choice(3, 0, what));
        }
        changesNothing(x, () -> x.why(3, 0, 2));
        for (int k = 0; k < 10; k++) {
            int what = k;
            changesNothing(x, () -> x.count(what));
        }

        terms("24 to 28", "Ahead of the calls `ifRoad`, `dearest`, `idle`, `hotShare`, `digest` the interface says: ---- what would be; nothing is changed.");
        changesNothing(x, () -> x.ifRoad(0, 7, 0));
        changesNothing(x, () -> x.dearest());
        changesNothing(x, () -> x.idle(0, 7));
        changesNothing(x, () -> (long) x.hotShare());
        changesNothing(x, () -> x.digest());
        x.keep(0);
        x.ifRoad(1, 2, 0);
        x.dearest();
        x.idle(0, 7);
        x.undo();
        Check.is("what was saved is as it was", x.exitOf(0, 2) + x.roadOf(0, 7) + x.roadOf(1, 2), 36);
        x.goBack(0);
        Check.is("what was kept is as it was", x.exitOf(0, 2) + x.roadOf(0, 7) + x.roadOf(1, 2), 35);
    }

    private static void lastCall() {
        terms("1", "An object is used for at most 512 calls after it has been made");
        LoafExits x = oneExit(0);
        for (int call = 3; call < 512; call++) {
            x.send(1, 0);
        }
        Check.is("call 512", x.count(6), 5090);
        LoafExits text = new LoafExits();
        for (int round = 0; round < 8; round++) {
            write(text, "~".repeat(60));
            Check.is("sixty signs", text.clearBuffer(), 60);
        }
        write(text, "s0>0;s0>0;s0>0");
        Check.is("three orders", text.run(), 3);
        for (int call = 504; call < 512; call++) {
            text.settle();
        }
        Check.is("call 512", text.count(9), 6);
    }
}
