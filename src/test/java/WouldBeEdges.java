/** The sentences of promises 24 to 28, one after the other: ifRoad, dearest, idle, hotShare, digest. */
final class WouldBeEdges extends Edges {
    private WouldBeEdges() {
    }

    static void all() {
        test(WouldBeEdges::ifRoad);
        test(WouldBeEdges::ifRoadThrows);
        test(WouldBeEdges::dearest);
        test(WouldBeEdges::dearestOfSeveral);
        test(WouldBeEdges::idle);
        test(WouldBeEdges::idleThrows);
        test(WouldBeEdges::hotShare);
        test(WouldBeEdges::digestOfNew);
        test(WouldBeEdges::digestOfNumbers);
        test(WouldBeEdges::digestOfLand);
        test(WouldBeEdges::digestOfChoices);
        test(WouldBeEdges::digestOfWouldBe);
        test(WouldBeEdges::digestOfRest);
    }

    private static void ifRoad() {
        promise(24, "Tells how many choices another cost would change.");
        LoafExits x = exitsAt(0, 7);
        Check.is("town 4 is 30 from the one and 40 from the other then", x.ifRoad(4, 1, 20), 1);
        Check.is("equally far, so the lowest number", x.ifRoad(4, 1, 21), 0);
        Check.is("the road is not changed", x.roadOf(4, 1), 0);
        Check.is("nor the choice", x.choice(4, 0, 0), 1);

        promise(24, "`one`: a town");
        onlyTowns(one -> oneExit(0).ifRoad(one, one == 3 ? 5 : 3, 1));

        promise(24, "`other`: another town");
        onlyTowns(other -> oneExit(0).ifRoad(other == 3 ? 5 : 3, other, 1));

        promise(24, "`cost`: 0 to 99, as for road()");
        onlyValues(0, 99, cost -> oneExit(0).ifRoad(0, 1, cost));
        LoafExits y = oneExit(0);
        Check.is("0: no road", y.ifRoad(3, 4, 0), 4);
        Check.is("99", y.ifRoad(3, 4, 99), 0);
        y.road(3, 4, 0);
        Check.is("99 for none", y.ifRoad(3, 4, 99), 4);
        Check.is("none for none", y.ifRoad(3, 4, 0), 0);

        promise(24, "Returns for how many pairs of a town and a house the exit that is chosen now, choice(.., 0), would be another one");
        LoafExits z = exitsAt(0, 7);
        for (int house = 1; house < 4; house++) {
            z.offer(0, house, 1);
            z.offer(1, house, 1);
        }
        Check.is("three towns and four houses", z.ifRoad(6, 0, 1), 12);
        Check.is("the same exit by another way", z.ifRoad(5, 7, 19), 0);
        LoafExits turns = exitsAt(0, 2);
        turns.set(1, 1);
        turns.send(1, 0);
        Check.is("the one whose turn it is, then the one that is best", turns.ifRoad(0, 1, 9), 1);

        promise(24, "(or none, or one in place of none).");
        z.turn(1);
        Check.is("none", z.ifRoad(0, 1, 0), 28);
        z.road(0, 1, 0);
        Check.is("one in place of none", z.ifRoad(1, 0, 10), 28);
        Check.is("without exits", new LoafExits().ifRoad(0, 1, 0), 0);
    }

    private static void ifRoadThrows() {
        LoafExits x = usedLand();
        promise(24, "Throws `IndexOutOfBoundsException` if there is no such town");
        refusedWithoutChange(x, IndexOutOfBoundsException.class, () -> x.ifRoad(8, 0, 5));
        refusedWithoutChange(x, IndexOutOfBoundsException.class, () -> x.ifRoad(0, 8, 5));
        refusedWithoutChange(x, IndexOutOfBoundsException.class, () -> x.ifRoad(-1, -1, 5));

        promise(24, "Throws `IllegalArgumentException` if both are the same, or cost is out of range");
        for (int k = 0; k < 8; k++) {
            int town = k;
            refusedWithoutChange(x, IllegalArgumentException.class, () -> x.ifRoad(town, town, 0));
        }
        refusedWithoutChange(x, IllegalArgumentException.class, () -> x.ifRoad(0, 1, 100));
        refusedWithoutChange(x, IllegalArgumentException.class, () -> x.ifRoad(0, 1, -1));
    }

    private static void dearest() {
        promise(25, "Finds the exit whose closing would make most loaves dearer.");
        LoafExits x = exitsAt(0, 6, 7);
        Check.is("towns 0 to 2 for the first one, 4 to 6 for the second one, 7 for the third one", x.dearest(), 0);
        Check.is("it is open still", x.exitOf(0, 2), 1);
        x.exit(3, 3);
        Check.is("towns 2 to 4, at town 3", x.dearest(), 3);

        promise(25, "Returns the open exit without which most pairs of a town and a house");
        LoafExits y = exitsAt(0, 7);
        Check.is("four pairs and four pairs", y.dearest(), 0);
        y.offer(1, 1, 5);
        Check.is("four and twelve pairs", y.dearest(), 1);
        y.offer(0, 1, 4);
        Check.is("eight and four pairs", y.dearest(), 0);
        y.turn(0);
        Check.is("the open one", y.dearest(), 1);

        promise(25, ", for which an exit could be taken now");
        LoafExits z = exitsAt(0, 7, 7);
        z.road(1, 2, 0);
        Check.is("towns 0 and 1 none; 2 to 7 as before", z.dearest(), 0);
        z.offer(0, 0, 0);
        Check.is("0 and 1 had none before", z.dearest(), 0);
        z.turn(1);
        Check.is("now 2 to 7 none", z.dearest(), 2);

        promise(25, ", would have a greater choice(.., 1)");
        LoafExits w = exitsAt(3, 3, 0);
        Check.is("as far without it", w.dearest(), 2);
        LoafExits cheaper = exitsAt(5, 0);
        cheaper.offer(0, 0, 4);
        cheaper.offer(1, 0, 5);
        Check.is("0 to 2 are cheaper without the shortest offer, 3 to 7 dearer", cheaper.dearest(), 0);
        cheaper.exit(2, 2);
        cheaper.offer(2, 1, 1);
        cheaper.road(2, 3, 0);
        cheaper.road(1, 2, 0);
        Check.is("three pairs have none then, one has", cheaper.dearest(), 0);
    }

    private static void dearestOfSeveral() {
        promise(25, "or none");
        LoafExits x = exitsAt(0, 5);
        x.offer(0, 0, 0);
        Check.is("the only one that could be taken", x.dearest(), 1);
        LoafExits here = new LoafExits();
        for (int town = 0; town < 7; town++) {
            here.road(town, town + 1, 0);
        }
        here.exit(1, 1);
        here.exit(4, 0);
        here.offer(0, 0, 1);
        Check.is("one town has none then", here.dearest(), 1);

        promise(25, "(perhaps for no pair)");
        LoafExits y = exitsAt(2, 2, 2);
        Check.is("none would be dearer", y.dearest(), 0);
        y.turn(0);
        Check.is("the lowest open one", y.dearest(), 1);
        LoafExits noOffer = new LoafExits();
        noOffer.exit(0, 0);
        Check.is("without any offer", noOffer.dearest(), 0);

        promise(25, ", of several the lowest");
        Check.is("four pairs each", exitsAt(7, 0).dearest(), 0);
        LoafExits z = exitsAt(0, 7, 0, 7);
        Check.is("for no pair", z.dearest(), 0);
        z.turn(0);
        z.turn(1);
        Check.is("four pairs each of 2 and 3", z.dearest(), 2);

        promise(25, "; NONE if no exit is open.");
        Check.is("without exits", new LoafExits().dearest(), NONE);
        z.turn(2);
        Check.is("one is open", z.dearest(), 3);
        z.turn(3);
        Check.is("all are closed", z.dearest(), NONE);
    }

    private static void idle() {
        promise(26, "Finds the least cost of a road with which it would be on no cheapest way.");
        LoafExits x = new LoafExits();
        Check.is("between 0 and 7", x.idle(0, 7), 71);
        x.road(0, 7, 70);
        Check.is("with 70 the road is on a cheapest way", x.distance(0, 7, 0), 70);
        Check.is("still", x.idle(0, 7), 71);
        x.road(7, 0, 1);
        Check.is("the road that is there does not count", x.idle(0, 7), 71);
        Check.is("the road is as before", x.roadOf(0, 7), 1);

        promise(26, "`one`: a town");
        onlyTowns(one -> new LoafExits().idle(one, one == 3 ? 5 : 3));

        promise(26, "`other`: another town");
        onlyTowns(other -> new LoafExits().idle(other == 3 ? 5 : 3, other));

        promise(26, "Returns the least cost, 1 to 99, of a road between both with which the distance of both would be less than this cost");
        LoafExits y = new LoafExits();
        y.road(0, 1, 1);
        y.road(1, 2, 1);
        Check.is("the least that can be", y.idle(0, 2), 3);
        y.road(1, 2, 97);
        Check.is("98 around", y.idle(2, 0), 99);
        LoafExits z = new LoafExits();
        for (int cost = 1; cost <= 99; cost++) {
            z.road(2, 6, cost);
            Check.is("is road " + cost + " on no cheapest way", z.distance(2, 6, 1) < cost ? 1 : 0, cost >= 41 ? 1 : 0);
            Check.is("least cost, with " + cost, z.idle(2, 6), 41);
        }

        promise(26, "; NONE if there is none.");
        y.road(1, 2, 98);
        Check.is("99 around", y.idle(0, 2), NONE);
        Check.is("no way around", new LoafExits().idle(3, 4), NONE);
        LoafExits w = new LoafExits();
        w.road(3, 4, 0);
        Check.is("no way at all", w.idle(3, 4), NONE);
        Check.is("nor between other towns", w.idle(0, 7), NONE);
    }

    private static void idleThrows() {
        LoafExits x = usedLand();
        promise(26, "Throws `IndexOutOfBoundsException` if there is no such town");
        refusedWithoutChange(x, IndexOutOfBoundsException.class, () -> x.idle(8, 0));
        refusedWithoutChange(x, IndexOutOfBoundsException.class, () -> x.idle(0, 8));
        refusedWithoutChange(x, IndexOutOfBoundsException.class, () -> x.idle(-1, -1));

        promise(26, "Throws `IllegalArgumentException` if both are the same");
        for (int k = 0; k < 8; k++) {
            int town = k;
            refusedWithoutChange(x, IllegalArgumentException.class, () -> x.idle(town, town));
        }
    }

    private static void share(LoafExits x, double due) {
        Check.isTrue("answered " + x.hotShare() + ", due is " + due, x.hotShare() == due);
    }

    private static void hotShare() {
        promise(27, "Returns how many loaves did not grow cold.");
        LoafExits x = oneExit(0);
        send(x, 7, 0, 3);
        x.send(7, 1);
        share(x, 0.75);
        changesNothing(x, () -> (long) x.hotShare());

        promise(27, "Returns the loaves that left so far, as a double, divided by all that were sent so far");
        LoafExits y = oneExit(0);
        for (int sent = 1; sent <= 60; sent++) {
            y.send(0, sent % 7 == 0 ? 1 : 0);
            share(y, (sent - sent / 7) / (double) sent);
        }
        y.settle();
        share(y, 52 / 60.0);

        promise(27, "; 1.0 without any.");
        share(new LoafExits(), 1.0);
        LoafExits z = oneExit(0);
        share(z, 1.0);
        z.send(0, 1);
        share(z, 0.0);
        z.undo();
        share(z, 1.0);
    }

    private static long hash(long... list) {
        long hash = 3271;
        for (long v : list) {
            hash = 31 * hash + v;
        }
        return hash;
    }

    /** A new object's list, from the end of the land's numbers to its end. */
    private static long restOfNew(long begun) {
        long hash = begun;
        for (int k = 0; k < 4 * 8; k++) {
            hash = 31 * hash + (k % 8 == 4 ? 20 : 0);
        }
        for (int k = 0; k < 32 * 6; k++) {
            hash = 31 * hash + (k % 6 < 2 || k % 6 == 5 ? -1 : 0);
        }
        for (long v : new long[] {0, -1, 71, Double.doubleToLongBits(1.0), 0, 0, 0}) {
            hash = 31 * hash + v;
        }
        return hash;
    }

    private static long digestOfNewFrom(long begun) {
        long hash = begun;
        for (int v : new int[] {7, 0, 0, 0, 0, 0, 0, 0, 32, 0, 0, 0}) {
            hash = 31 * hash + v;
        }
        for (int pair = 0; pair < 64; pair++) {
            int apart = Math.abs(pair / 8 - pair % 8);
            hash = 31 * hash + (apart == 1 ? 10 : 0);
            hash = 31 * hash + 10 * apart;
        }
        return restOfNew(hash);
    }

    private static void digestOfNew() {
        promise(28, "Computes a hash of the whole state.");
        Check.is("of two new objects", new LoafExits().digest(), new LoafExits().digest());
        LoafExits x = usedLand();
        long before = x.digest();
        Check.is("asked again", x.digest(), before);
        Check.is("of the same calls", usedLand().digest(), before);
        x.undo();
        Check.isTrue("another state, another hash", x.digest() != before);

        promise(28, "The hash starts at 3271.");
        Check.is("of a new object", new LoafExits().digest(), digestOfNewFrom(3271));
        Check.isTrue("not at 3270", new LoafExits().digest() != digestOfNewFrom(3270));

        promise(28, "For each value v of the following list, in order, the hash becomes 31 * hash + v");
        long empty = new LoafExits().digest();
        long slotsAndLength = 31L * 31 * 31;
        Check.is("slot 0 stands at the third place from the end", keptIn(0).digest() - empty, 31 * 31);
        Check.is("slot 1 at the second one", keptIn(1).digest() - empty, 31);
        Check.is("a sign behind the length", written("!").digest(), 31 * (empty + 1) + 33);
        Check.isTrue("the last three values", empty % slotsAndLength == empty - empty / slotsAndLength * slotsAndLength);

        promise(28, ", in long arithmetic with overflow.");
        Check.is("far beyond a long", written("~~~").digest(), overflowing("~~~", empty));
        Check.is("the last bits are those of an int", (int) new LoafExits().digest(), (int) digestOfNewFrom(3271));
        Check.isTrue("it is no int", empty != (int) empty);

        promise(28, "Returns the hash.");
        changesNothing(usedLand(), () -> usedLand().digest());
        Check.is("the list of no value", hash(), 3271);
    }

    private static LoafExits keptIn(int slot) {
        LoafExits x = new LoafExits();
        x.keep(slot);
        return x;
    }

    private static long overflowing(String text, long empty) {
        java.math.BigInteger hash = java.math.BigInteger.valueOf(empty + text.length());
        for (int k = 0; k < text.length(); k++) {
            hash = hash.multiply(java.math.BigInteger.valueOf(31)).add(java.math.BigInteger.valueOf(text.charAt(k)));
        }
        return hash.longValue();
    }

    /** The digest is that of the list that the object itself tells. */
    private static void asListed(LoafExits x, int first, int second, long slots, String buffer) {
        Check.is("the digest", x.digest(), listed(x, first, second, slots, buffer));
    }

    private static long listed(LoafExits x, int first, int second, long slots, String buffer) {
        long hash = 3271;
        for (int what = 0; what <= 9; what++) {
            hash = 31 * hash + x.count(what);
        }
        hash = 31 * (31 * hash + first) + second;
        for (int one = 0; one < 8; one++) {
            for (int other = 0; other < 8; other++) {
                hash = 31 * (31 * hash + x.roadOf(one, other)) + x.distance(one, other, 0);
            }
        }
        for (int exit = 0; exit < x.count(1); exit++) {
            for (int what = 0; what <= 4; what++) {
                hash = 31 * hash + x.exitOf(exit, what);
            }
        }
        for (int neighbour = 0; neighbour < 4; neighbour++) {
            for (int what = 0; what <= 7; what++) {
                hash = 31 * hash + x.neighbourOf(neighbour, what);
            }
        }
        for (int town = 0; town < 8; town++) {
            for (int house = 0; house < 4; house++) {
                for (int what = 0; what <= 5; what++) {
                    hash = 31 * hash + x.choice(town, house, what);
                }
            }
        }
        for (int exit = 0; exit < x.count(1); exit++) {
            hash = 31 * hash + x.why(0, 0, exit);
        }
        hash = 31 * (31 * (31 * hash + x.ifRoad(0, 7, 5)) + x.dearest()) + x.idle(0, 7);
        hash = 31 * hash + Double.doubleToLongBits(x.hotShare());
        hash = 31 * (31 * hash + slots / 10) + slots % 10;
        hash = 31 * hash + buffer.length();
        for (int k = 0; k < buffer.length(); k++) {
            hash = 31 * hash + buffer.charAt(k);
        }
        return hash;
    }

    private static void digestOfNumbers() {
        promise(28, "The values are: count(0) to count(9)");
        asListed(usedLand(), 0, 1, 1, "s0>");
        LoafExits x = new LoafExits();
        x.settle();
        asListed(x, 0, 0, 0, "");
        LoafExits cold = new LoafExits();
        send(cold, 0, 0, 9);
        asListed(cold, 0, 0, 0, "");

        promise(28, "; the settings 0 and 1");
        for (int settings = 0; settings < 4; settings++) {
            LoafExits y = new LoafExits();
            y.set(0, settings / 2);
            y.set(1, settings % 2);
            asListed(y, settings / 2, settings % 2, 0, "");
        }
    }

    private static void digestOfLand() {
        promise(28, "; roadOf and distance with 0 of all pairs of towns, by the first one, then by the second one");
        LoafExits x = new LoafExits();
        for (int k = 0; k < 6; k++) {
            x.road(k, k + 2, 7 + 3 * k);
            asListed(x, 0, 0, 0, "");
        }
        x.road(4, 5, 0);
        x.road(4, 6, 0);
        x.road(3, 5, 0);
        asListed(x, 0, 0, 0, "");

        promise(28, "; for each exit its properties 0 to 4");
        LoafExits y = exitsAt(3, 1, 4, 1, 5, 2, 6, 0);
        y.turn(2);
        for (int town = 0; town < 8; town++) {
            send(y, town, 0, 2);
            asListed(y, 0, 0, 0, "");
        }

        promise(28, "; for each neighbour its properties 0 to 7");
        LoafExits z = exitsAt(3, 1, 4, 6);
        for (int pair = 0; pair < 16; pair++) {
            z.offer(pair / 4, pair % 4, 1 + pair * 5 % 9);
            z.bound(pair / 4, pair % 3);
            send(z, pair % 8, pair % 4, 3);
            asListed(z, 0, 0, 0, "");
        }
        z.settle();
        z.send(3, 0);
        asListed(z, 0, 0, 0, "");
    }

    private static void digestOfChoices() {
        promise(28, "; for each town and each house (the towns first) choice with 0 to 5");
        LoafExits x = exitsAt(2, 2, 7, 5, 5, 0);
        x.set(1, 1);
        for (int pair = 0; pair < 32; pair++) {
            x.offer(pair % 3, pair % 4, 1 + pair % 3);
            send(x, pair / 4, pair % 4, pair % 5);
            asListed(x, 0, 1, 0, "");
        }

        promise(28, "; why of the town 0, the house 0 and each exit");
        LoafExits y = exitsAt(1, 7, 1, 5, 1, 1, 4, 7);
        y.offer(3, 0, 6);
        y.turn(5);
        asListed(y, 0, 0, 0, "");
        y.set(0, 1);
        asListed(y, 1, 0, 0, "");
        y.road(4, 5, 0);
        asListed(y, 1, 0, 0, "");
    }

    private static void digestOfWouldBe() {
        promise(28, "; ifRoad of 0, 7 and 5");
        LoafExits x = exitsAt(2, 7, 1);
        x.offer(1, 0, 0);
        x.exit(7, 0);
        x.road(0, 2, 6);
        Check.is("with 5 and not with 6", x.ifRoad(0, 7, 5) - x.ifRoad(0, 7, 6), 1);
        asListed(x, 0, 0, 0, "");
        x.road(0, 2, 5);
        Check.is("with 4 and not with 5", x.ifRoad(0, 7, 4) - x.ifRoad(0, 7, 5), 1);
        asListed(x, 0, 0, 0, "");
        LoafExits none = oneExit(0);
        none.road(3, 4, 0);
        Check.is("one in place of none", none.ifRoad(0, 7, 5), 4);
        asListed(none, 0, 0, 0, "");

        promise(28, "; dearest");
        LoafExits y = exitsAt(2, 2, 2, 6);
        Check.is("the last one", y.dearest(), 3);
        asListed(y, 0, 0, 0, "");
        y.turn(3);
        Check.is("for no pair", y.dearest(), 0);
        asListed(y, 0, 0, 0, "");

        promise(28, "; idle of 0 and 7");
        LoafExits z = new LoafExits();
        z.road(0, 7, 1);
        Check.is("around", z.idle(0, 7), 71);
        asListed(z, 0, 0, 0, "");
        z.road(0, 1, 39);
        Check.is("none", z.idle(0, 7), NONE);
        asListed(z, 0, 0, 0, "");
    }

    private static void digestOfRest() {
        promise(28, "; the bits of hotShare (as Double.doubleToLongBits)");
        for (int cold = 0; cold <= 30; cold++) {
            LoafExits x = oneExit(0);
            send(x, 0, 1, cold);
            send(x, 0, 0, 30 - cold);
            asListed(x, 0, 0, 0, "");
        }
        LoafExits few = oneExit(0);
        few.send(0, 0);
        send(few, 0, 1, 4096);
        asListed(few, 0, 0, 0, "");

        promise(28, "; for each slot 1 if it has a snapshot, otherwise 0");
        LoafExits y = usedLand();
        y.goBack(1);
        asListed(y, 0, 1, 1, "s0>");
        y.keep(0);
        asListed(y, 0, 1, 11, "s0>");
        y.undo();
        y.undo();
        asListed(y, 0, 1, 11, "s0>");
        asListed(keptIn(0), 0, 0, 10, "");

        promise(28, "; the length of the buffer and each of its character codes.");
        StringBuilder text = new StringBuilder();
        LoafExits z = new LoafExits();
        for (int k = 0; k < 60; k++) {
            z.append('~' - k);
            text.append((char) ('~' - k));
            asListed(z, 0, 0, 0, text.toString());
        }
        z.clearBuffer();
        asListed(z, 0, 0, 0, "");
    }
}
