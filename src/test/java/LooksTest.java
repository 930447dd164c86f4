/** Promises 17 to 23: roadOf, distance, exitOf, neighbourOf, choice, why, count. */
public final class LooksTest {
    public static void main(String[] args) {
        roadOf();
        distance();
        distanceRefuses();
        exitOf();
        neighbourOf();
        choice();
        choiceOfNone();
        nextTown();
        why();
        whyWithNearestFirst();
        whyByTurns();
        count();
        looksChangeNothing();
        Check.end("LooksTest");
    }

    private static void roadOf() {
        LoafExits x = new LoafExits();
        x.road(2, 6, 33);
        Check.is("17: there", x.roadOf(2, 6), 33);
        Check.is("17: back", x.roadOf(6, 2), 33);
        Check.is("17: the same town", x.roadOf(5, 5), 0);
        Check.is("17: none", x.roadOf(0, 7), 0);
        Check.noIndex("17: town -1", () -> x.roadOf(-1, 0));
        Check.noIndex("17: town 8", () -> x.roadOf(8, 0));
        Check.noIndex("17: other -1", () -> x.roadOf(0, -1));
        Check.noIndex("17: other 8", () -> x.roadOf(0, 8));
    }

    private static void both(LoafExits x, String what, int one, int other, int due) {
        for (int told = 0; told <= 1; told++) {
            Check.is("18: " + what + ", told by " + told, x.distance(one, other, told), due);
            Check.is("18: " + what + ", back, told by " + told, x.distance(other, one, told), due);
        }
    }

    private static void distance() {
        LoafExits x = new LoafExits();
        both(x, "itself", 4, 4, 0);
        both(x, "along", 1, 6, 50);
        x.road(0, 7, 15);
        both(x, "the other way round", 1, 6, 35);
        x.road(1, 6, 35);
        both(x, "equal ways", 1, 6, 35);
        x.road(1, 6, 34);
        both(x, "the road itself", 1, 6, 34);
        x.road(1, 6, 99);
        both(x, "a dear road is not taken", 1, 6, 35);
        x.road(0, 7, 1);
        both(x, "over the cheapest road", 1, 6, 21);
        x.road(3, 4, 0);
        x.road(0, 7, 0);
        both(x, "over the dear road", 0, 5, 119);
        x.road(1, 6, 0);
        both(x, "none", 0, 7, LoafExits.NONE);
        both(x, "none across", 3, 4, LoafExits.NONE);
        both(x, "within a part", 4, 7, 30);
        both(x, "itself without ways", 7, 7, 0);
        for (int town = 0; town < 7; town++) {
            x.road(town, town + 1, 99);
        }
        both(x, "the longest", 0, 7, 693);
    }

    private static void distanceRefuses() {
        LoafExits x = new LoafExits();
        Check.noIndex("18: town -1", () -> x.distance(-1, 0, 0));
        Check.noIndex("18: town 8", () -> x.distance(8, 0, 0));
        Check.noIndex("18: other -1", () -> x.distance(0, -1, 1));
        Check.noIndex("18: other 8", () -> x.distance(0, 8, 1));
        Check.noIndex("18: the town ahead of what", () -> x.distance(0, 8, 2));
        Check.noArgument("18: what -1", () -> x.distance(0, 1, -1));
        Check.noArgument("18: what 2", () -> x.distance(0, 1, 2));
        Check.noArgument("18: what 2 of one town", () -> x.distance(0, 0, 2));
    }

    private static void exitOf() {
        LoafExits x = new LoafExits();
        Check.noIndex("19: no exit", () -> x.exitOf(0, 0));
        x.exit(6, 2);
        x.exit(1, 3);
        x.offer(3, 0, 4);
        x.send(4, 0);
        x.send(1, 0);
        x.turn(1);
        int[] due = {1, 3, 0, 2, 30};
        for (int what = 0; what <= 4; what++) {
            Check.is("19: exitOf 1 " + what, x.exitOf(1, what), due[what]);
        }
        Check.is("19: the other one", x.exitOf(0, 3), 0);
        Check.noIndex("19: exit -1", () -> x.exitOf(-1, 0));
        Check.noIndex("19: exit 2", () -> x.exitOf(2, 0));
        Check.noIndex("19: the exit ahead of what", () -> x.exitOf(2, 5));
        Check.noArgument("19: what -1", () -> x.exitOf(0, -1));
        Check.noArgument("19: what 5", () -> x.exitOf(0, 5));
    }

    private static void neighbourOf() {
        LoafExits x = new LoafExits();
        x.exit(0, 2);
        for (int house = 0; house < 4; house++) {
            x.offer(2, house, 9 - house);
        }
        x.bound(2, 1);
        x.send(0, 0);
        x.send(0, 1);
        x.settle();
        x.send(0, 2);
        x.send(0, 3);
        x.send(0, 3);
        int[] due = {9, 8, 7, 6, 1, 3, 2, 3};
        for (int what = 0; what <= 7; what++) {
            Check.is("20: neighbourOf 2 " + what, x.neighbourOf(2, what), due[what]);
        }
        Check.noIndex("20: neighbour -1", () -> x.neighbourOf(-1, 0));
        Check.noIndex("20: neighbour 4", () -> x.neighbourOf(4, 0));
        Check.noIndex("20: the neighbour ahead of what", () -> x.neighbourOf(4, 8));
        Check.noArgument("20: what -1", () -> x.neighbourOf(0, -1));
        Check.noArgument("20: what 8", () -> x.neighbourOf(0, 8));
    }

    private static void choices(LoafExits x, String what, int town, int house, int... due) {
        for (int k = 0; k < due.length; k++) {
            Check.is("21: " + what + ", choice " + k, x.choice(town, house, k), due[k]);
        }
    }

    private static void choice() {
        LoafExits x = new LoafExits();
        x.exit(0, 0);
        x.exit(5, 1);
        x.exit(5, 2);
        x.exit(7, 3);
        x.offer(0, 1, 3);
        x.offer(1, 1, 2);
        x.offer(2, 1, 2);
        choices(x, "two best of three", 3, 1, 1, 20, 2, 3, 0, 4);
        choices(x, "here", 5, 1, 1, 0, 2, 3, 0, 5);
        x.send(3, 1);
        choices(x, "one went out", 3, 1, 1, 20, 2, 3, 1, 4);
        x.set(1, 1);
        choices(x, "by turns", 3, 1, 2, 20, 2, 3, 1, 4);
        x.set(0, 1);
        choices(x, "the nearest", 1, 1, 0, 10, 1, 3, 0, 0);
        x.turn(1);
        choices(x, "closed", 3, 1, 2, 20, 1, 2, 1, 4);
        choices(x, "another house", 3, 0, -1, -1, 0, 0, 0, -1);
        Check.noIndex("21: town -1", () -> x.choice(-1, 0, 0));
        Check.noIndex("21: town 8", () -> x.choice(8, 0, 0));
        Check.noIndex("21: house -1", () -> x.choice(0, -1, 0));
        Check.noIndex("21: house 4", () -> x.choice(0, 4, 0));
        Check.noIndex("21: the house ahead of what", () -> x.choice(0, 4, 6));
        Check.noArgument("21: what -1", () -> x.choice(0, 0, -1));
        Check.noArgument("21: what 6", () -> x.choice(0, 0, 6));
    }

    private static void choiceOfNone() {
        LoafExits x = new LoafExits();
        x.exit(2, 0);
        choices(x, "no offer", 2, 0, -1, -1, 0, 0, 0, -1);
        x.offer(0, 0, 1);
        x.send(4, 0);
        x.road(2, 3, 0);
        choices(x, "no way", 4, 0, -1, -1, 0, 0, 1, -1);
        choices(x, "no way is asked of one that is here", 2, 0, 0, 0, 1, 1, 0, 2);
        x.turn(0);
        choices(x, "closed", 2, 0, -1, -1, 0, 0, 0, -1);
    }

    private static void nextTown() {
        LoafExits x = new LoafExits();
        x.exit(4, 0);
        x.offer(0, 0, 1);
        x.road(7, 4, 30);
        choices(x, "the lowest of equal ways", 7, 0, 0, 30, 1, 1, 0, 4);
        x.road(7, 1, 5);
        x.road(1, 4, 25);
        choices(x, "lower still", 7, 0, 0, 30, 1, 1, 0, 1);
        x.road(7, 1, 6);
        choices(x, "not on a cheapest way", 7, 0, 0, 30, 1, 1, 0, 4);
        x.road(7, 4, 31);
        choices(x, "over 6", 7, 0, 0, 30, 1, 1, 0, 6);
        x.road(5, 7, 1);
        choices(x, "over the cheapest road", 7, 0, 0, 11, 1, 1, 0, 5);
        choices(x, "a higher one", 2, 0, 0, 20, 1, 1, 0, 3);
    }

    private static void reasons(LoafExits x, String what, int town, int house, int... due) {
        for (int exit = 0; exit < due.length; exit++) {
            Check.is("22: " + what + ", exit " + exit, x.why(town, house, exit), due[exit]);
        }
    }

    private static LoafExits manyReasons() {
        LoafExits x = new LoafExits();
        x.exit(2, 0);
        x.exit(0, 0);
        x.exit(1, 1);
        x.exit(2, 0);
        x.exit(1, 2);
        x.exit(7, 0);
        x.exit(0, 0);
        x.offer(0, 0, 3);
        x.offer(1, 0, 4);
        x.road(6, 7, 0);
        x.turn(6);
        return x;
    }

    private static void why() {
        LoafExits x = manyReasons();
        Check.is("22: the lowest of the best", x.choice(1, 0, 0), 0);
        reasons(x, "shortest first", 1, 0, 0, 6, 4, 6, 2, 3, 1);
        reasons(x, "from 0", 0, 0, 5, 0, 4, 5, 2, 3, 1);
        reasons(x, "no offers", 0, 1, 2, 2, 2, 2, 2, 2, 1);
        x.turn(4);
        x.turn(5);
        reasons(x, "closed comes first", 1, 0, 0, 6, 4, 6, 1, 1, 1);
        Check.noIndex("22: town -1", () -> x.why(-1, 0, 0));
        Check.noIndex("22: town 8", () -> x.why(8, 0, 0));
        Check.noIndex("22: house -1", () -> x.why(0, -1, 0));
        Check.noIndex("22: house 4", () -> x.why(0, 4, 0));
        Check.noIndex("22: exit -1", () -> x.why(0, 0, -1));
        Check.noIndex("22: exit 7", () -> x.why(0, 0, 7));
    }

    private static void whyWithNearestFirst() {
        LoafExits x = manyReasons();
        x.set(0, 1);
        reasons(x, "nearest first", 1, 0, 4, 4, 0, 4, 2, 3, 1);
        x.offer(2, 0, 5);
        reasons(x, "nearest, but longer", 1, 0, 4, 4, 0, 4, 5, 3, 1);
        x.offer(2, 0, 4);
        reasons(x, "nearest and as long", 1, 0, 4, 4, 0, 4, 6, 3, 1);
    }

    private static void whyByTurns() {
        LoafExits x = manyReasons();
        x.set(1, 1);
        x.send(1, 0);
        reasons(x, "the second one's turn", 1, 0, 6, 0, 4, 6, 2, 3, 1);
        x.send(1, 0);
        reasons(x, "the third one's turn", 1, 0, 6, 6, 4, 0, 2, 3, 1);
    }

    private static void count() {
        LoafExits x = manyReasons();
        x.bound(0, 1);
        x.send(1, 0);
        x.send(0, 0);
        x.send(3, 0);
        x.send(7, 3);
        x.settle();
        int[] due = {6, 7, 6, 2, 4, 1, 20, 2, 24, 6};
        for (int what = 0; what <= 9; what++) {
            Check.is("23: count " + what, x.count(what), due[what]);
        }
        x.turn(5);
        Check.is("23: town 7 has no exit to house 0 then", x.count(8), 25);
        Check.noArgument("23: what -1", () -> x.count(-1));
        Check.noArgument("23: what 10", () -> x.count(10));
    }

    private static void looksChangeNothing() {
        LoafExits x = manyReasons();
        long before = x.digest();
        x.roadOf(0, 1);
        x.distance(0, 7, 0);
        x.distance(0, 7, 1);
        x.exitOf(0, 0);
        x.neighbourOf(0, 0);
        x.choice(1, 0, 0);
        x.why(1, 0, 0);
        x.count(8);
        x.ifRoad(6, 7, 1);
        x.dearest();
        x.idle(0, 7);
        x.hotShare();
        x.firstError();
        Check.is("looks change nothing", x.digest(), before);
    }
}
