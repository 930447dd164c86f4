/** Promises 24 to 28: ifRoad, dearest, idle, hotShare, digest. */
public final class WouldBeTest {
    public static void main(String[] args) {
        ifRoad();
        ifRoadByTurns();
        ifRoadRefuses();
        dearest();
        dearestOfOpenOnes();
        idle();
        idleEdges();
        hotShare();
        digestOfNew();
        digestOfUsed();
        digestOfParts();
        digestOfSmallThings();
        Check.end("WouldBeTest");
    }

    private static void ifRoad() {
        LoafExits x = new LoafExits();
        Check.is("24: without exits", x.ifRoad(0, 7, 5), 0);
        x.exit(0, 0);
        x.exit(7, 1);
        x.offer(0, 0, 1);
        x.offer(1, 0, 1);
        x.offer(0, 1, 1);
        Check.is("24: town 5 and 6 change to exit 0 for nothing", x.ifRoad(0, 7, 5), 0);
        Check.is("24: towns 4 and 5 to exit 0", x.ifRoad(0, 5, 10), 2);
        Check.is("24: none in place of one", x.ifRoad(3, 4, 0), 4);
        Check.is("24: nothing is changed", x.roadOf(0, 7), 0);
        Check.is("24: nothing is saved", x.count(9), 5);
        x.road(3, 4, 0);
        Check.is("24: one in place of none", x.ifRoad(3, 4, 99), 4);
        Check.is("24: another one and one in place of none", x.ifRoad(0, 5, 1), 6);
        Check.is("24: the same cost", x.ifRoad(0, 1, 10), 0);
        x.road(0, 1, 0);
        Check.is("24: three towns and two houses", x.ifRoad(0, 1, 5), 6);
        x.turn(0);
        Check.is("24: town 0 alone", x.ifRoad(0, 7, 5), 1);
    }

    private static void ifRoadByTurns() {
        LoafExits x = new LoafExits();
        x.exit(0, 0);
        x.exit(2, 0);
        x.offer(0, 0, 1);
        x.set(1, 1);
        x.send(1, 0);
        Check.is("24: its turn is exit 1", x.choice(1, 0, 0), 1);
        Check.is("24: exit 0 alone would be best", x.ifRoad(0, 1, 9), 1);
        Check.is("24: exit 1 alone would be best", x.ifRoad(0, 1, 11), 0);
    }

    private static void ifRoadRefuses() {
        LoafExits x = new LoafExits();
        Check.noIndex("24: town -1", () -> x.ifRoad(-1, 0, 5));
        Check.noIndex("24: town 8", () -> x.ifRoad(8, 0, 5));
        Check.noIndex("24: other -1", () -> x.ifRoad(0, -1, 5));
        Check.noIndex("24: other 8", () -> x.ifRoad(0, 8, 5));
        Check.noIndex("24: the town ahead of the same", () -> x.ifRoad(8, 8, 100));
        Check.noArgument("24: the same", () -> x.ifRoad(0, 0, 5));
        Check.noArgument("24: cost -1", () -> x.ifRoad(0, 1, -1));
        Check.noArgument("24: cost 100", () -> x.ifRoad(0, 1, 100));
    }

    private static void dearest() {
        LoafExits x = new LoafExits();
        Check.is("25: no exit", x.dearest(), LoafExits.NONE);
        x.exit(0, 0);
        x.exit(5, 1);
        Check.is("25: for no pair, the lowest", x.dearest(), 0);
        x.offer(1, 0, 1);
        Check.is("25: the one that could be taken", x.dearest(), 1);
        x.offer(0, 0, 1);
        Check.is("25: towns 3 to 7", x.dearest(), 1);
        x.exit(5, 1);
        Check.is("25: the other one of 5 is as near", x.dearest(), 0);
        x.turn(2);
        Check.is("25: it is closed", x.dearest(), 1);
        x.road(3, 4, 0);
        Check.is("25: as many pairs, the lowest", x.dearest(), 0);
    }

    private static void dearestOfOpenOnes() {
        LoafExits x = new LoafExits();
        x.exit(0, 0);
        x.exit(1, 0);
        x.exit(4, 1);
        x.turn(0);
        Check.is("25: the lowest open one", x.dearest(), 1);
        x.offer(0, 0, 2);
        x.offer(1, 0, 1);
        Check.is("25: without exit 2 towns 4 to 7 are dearer, 0 to 2 are cheaper", x.dearest(), 2);
        x.road(3, 4, 0);
        Check.is("25: four none and four none", x.dearest(), 1);
        x.turn(1);
        x.turn(2);
        Check.is("25: none is open", x.dearest(), LoafExits.NONE);
        x.turn(0);
        Check.is("25: one is open", x.dearest(), 0);
    }

    private static void idle() {
        LoafExits x = new LoafExits();
        Check.is("26: around", x.idle(0, 7), 71);
        Check.is("26: back", x.idle(7, 0), 71);
        Check.is("26: no other way", x.idle(0, 1), LoafExits.NONE);
        x.road(0, 7, 1);
        Check.is("26: whatever it costs now", x.idle(0, 7), 71);
        Check.is("26: the long way around", x.idle(0, 1), 62);
        x.road(3, 4, 0);
        Check.is("26: no way around", x.idle(0, 7), LoafExits.NONE);
        Check.is("26: nothing is changed", x.roadOf(0, 7), 1);
        Check.is("26: nothing is saved", x.count(9), 2);
        Check.noIndex("26: town -1", () -> x.idle(-1, 0));
        Check.noIndex("26: town 8", () -> x.idle(8, 0));
        Check.noIndex("26: other 8", () -> x.idle(0, 8));
        Check.noIndex("26: the town ahead of the same", () -> x.idle(8, 8));
        Check.noArgument("26: the same", () -> x.idle(3, 3));
    }

    private static void idleEdges() {
        LoafExits x = new LoafExits();
        x.road(0, 1, 39);
        Check.is("26: 99 is less than no cost of a road", x.idle(0, 7), LoafExits.NONE);
        x.road(0, 1, 38);
        Check.is("26: 98 is less than 99", x.idle(0, 7), 99);
        x.road(0, 1, 1);
        x.road(1, 2, 1);
        Check.is("26: the least way around", x.idle(0, 2), 3);
    }

    private static void share(String what, double got, double due) {
        Check.isTrue("27: " + what + " answered " + got + ", due is " + due, got == due);
    }

    private static void hotShare() {
        LoafExits x = new LoafExits();
        share("without any", x.hotShare(), 1.0);
        x.send(0, 0);
        share("all cold", x.hotShare(), 0.0);
        x.exit(0, 0);
        x.offer(0, 0, 1);
        x.send(0, 0);
        share("half", x.hotShare(), 0.5);
        x.send(0, 0);
        share("two thirds", x.hotShare(), 2.0 / 3);
        x.send(0, 1);
        x.send(0, 1);
        share("two fifths", x.hotShare(), 0.4);
        x.settle();
        share("of all so far", x.hotShare(), 0.4);
    }

    /** The list of a new object, written out here value by value. */
    private static void digestOfNew() {
        long hash = 3271;
        int[] counts = {7, 0, 0, 0, 0, 0, 0, 0, 32, 0, 0, 0};
        for (int v : counts) {
            hash = 31 * hash + v;
        }
        for (int pair = 0; pair < 64; pair++) {
            int apart = Math.abs(pair / 8 - pair % 8);
            hash = 31 * hash + (apart == 1 ? 10 : 0);
            hash = 31 * hash + 10 * apart;
        }
        for (int k = 0; k < 32; k++) {
            hash = 31 * hash + (k % 8 == 4 ? 20 : 0);
        }
        int[] none = {-1, -1, 0, 0, 0, -1};
        for (int k = 0; k < 32 * 6; k++) {
            hash = 31 * hash + none[k % 6];
        }
        hash = 31 * hash;
        hash = 31 * hash - 1;
        hash = 31 * hash + 71;
        hash = 31 * hash + Double.doubleToLongBits(1.0);
        for (int k = 0; k < 3; k++) {
            hash = 31 * hash;
        }
        Check.is("28: a new object", new LoafExits().digest(), hash);
        LoafExits x = new LoafExits();
        x.append('s');
        x.append('~');
        Check.is("28: the buffer", x.digest(), (31 * (hash + 2) + 's') * 31 + '~');
        x.clearBuffer();
        x.keep(1);
        Check.is("28: slot 1", x.digest(), hash + 31);
        x.keep(0);
        Check.is("28: both slots", x.digest(), hash + 31 + 31 * 31);
    }

    private static void digestOfUsed() {
        LoafExits x = new LoafExits();
        Model m = new Model();
        int[][] exits = {{0, 0}, {3, 1}, {6, 2}, {1, 3}};
        for (int[] e : exits) {
            Check.is("28: exit", x.exit(e[0], e[1]), m.exit(e[0], e[1]));
        }
        for (int k = 0; k < 16; k++) {
            Check.is("28: offer", x.offer(k / 4, k % 4, k * 7 % 10), m.offer(k / 4, k % 4, k * 7 % 10));
        }
        Check.is("28: set", x.set(0, 1), m.set(0, 1));
        Check.is("28: digest", x.digest(), m.digest());
        Check.is("28: set", x.set(1, 1), m.set(1, 1));
        Check.is("28: turn", x.turn(2), m.turn(2));
        Check.is("28: bound", x.bound(0, 1), m.bound(0, 1));
        for (int k = 0; k < 40; k++) {
            Check.is("28: send", x.send(k % 8, k % 3), m.send(k % 8, k % 3));
            Check.is("28: digest", x.digest(), m.digest());
        }
    }

    /** Shares of all sizes, because the program tells their bits by itself. */
    private static void digestOfParts() {
        for (int hot = 0; hot <= 12; hot++) {
            LoafExits x = new LoafExits();
            Model m = new Model();
            Check.is("28: exit", x.exit(0, 0), m.exit(0, 0));
            Check.is("28: offer", x.offer(0, 0, 1), m.offer(0, 0, 1));
            for (int k = 0; k < 25; k++) {
                int house = k < hot ? 0 : 1;
                Check.is("28: send", x.send(5, house), m.send(5, house));
                Check.is("28: digest of a share", x.digest(), m.digest());
            }
        }
    }

    /** A land in which ifRoad(0, 7, 5) is not ifRoad(0, 7, 6), nor why of town 0 that of town 1. */
    private static void digestOfSmallThings() {
        LoafExits x = new LoafExits();
        Model m = new Model();
        Check.is("28: exit", x.exit(2, 0), m.exit(2, 0));
        Check.is("28: exit", x.exit(7, 0), m.exit(7, 0));
        Check.is("28: exit", x.exit(1, 0), m.exit(1, 0));
        Check.is("28: offer", x.offer(0, 0, 1), m.offer(0, 0, 1));
        Check.is("28: road", x.road(0, 2, 6), m.road(0, 2, 6));
        Check.is("28: cost 5", x.ifRoad(0, 7, 5), 1);
        Check.is("28: cost 6", x.ifRoad(0, 7, 6), 0);
        Check.is("28: town 0", x.why(0, 0, 2), 5);
        Check.is("28: town 1", x.why(1, 0, 2), 0);
        Check.is("28: digest", x.digest(), m.digest());
    }
}
