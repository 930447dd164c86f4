/** Promises 1 to 7: a new object, road, exit, turn, offer, bound, set. */
public final class LandTest {
    public static void main(String[] args) {
        newObject();
        road();
        roadRefuses();
        exit();
        turn();
        offer();
        bound();
        set();
        changesAreUndoable();
        Check.end("LandTest");
    }

    private static void newObject() {
        LoafExits x = new LoafExits();
        int[] counts = {7, 0, 0, 0, 0, 0, 0, 0, 32, 0};
        for (int what = 0; what <= 9; what++) {
            Check.is("1: count " + what, x.count(what), counts[what]);
        }
        for (int one = 0; one < 8; one++) {
            for (int other = 0; other < 8; other++) {
                int apart = one < other ? other - one : one - other;
                Check.is("1: roadOf " + one + " " + other, x.roadOf(one, other), apart == 1 ? 10 : 0);
                Check.is("1: distance " + one + " " + other, x.distance(one, other, 0), 10L * apart);
            }
        }
        for (int neighbour = 0; neighbour < 4; neighbour++) {
            for (int what = 0; what <= 7; what++) {
                Check.is("1: neighbourOf " + what, x.neighbourOf(neighbour, what), what == 4 ? 20 : 0);
            }
        }
        Check.is("1: setting 0", new LoafExits().set(0, 0), 0);
        Check.is("1: setting 1", new LoafExits().set(1, 0), 0);
        Check.is("1: the buffer is empty", x.clearBuffer(), 0);
        Check.noState("1: slot 0 is empty", () -> x.goBack(0));
        Check.noState("1: slot 1 is empty", () -> x.goBack(1));
        Check.noState("1: nothing is saved", () -> x.undo());
        Check.is("1: NONE", LoafExits.NONE, -1);
    }

    private static void road() {
        LoafExits x = new LoafExits();
        Check.is("2: the cost before", x.road(1, 0, 99), 10);
        Check.is("2: there", x.roadOf(0, 1), 99);
        Check.is("2: and back", x.roadOf(1, 0), 99);
        Check.is("2: none before", x.road(0, 7, 1), 0);
        Check.is("2: one more", x.count(0), 8);
        Check.is("2: taken away", x.road(7, 0, 0), 1);
        Check.is("2: it is away", x.roadOf(0, 7), 0);
        Check.is("2: one less", x.count(0), 7);
        Check.is("2: the same again", x.road(3, 4, 10), 10);
        Check.is("2: saved all the same", x.count(9), 4);
    }

    private static void roadRefuses() {
        LoafExits x = new LoafExits();
        Check.noIndex("2: town -1", () -> x.road(-1, 0, 1));
        Check.noIndex("2: town 8", () -> x.road(8, 0, 1));
        Check.noIndex("2: other -1", () -> x.road(0, -1, 1));
        Check.noIndex("2: other 8", () -> x.road(0, 8, 1));
        Check.noIndex("2: the town ahead of the same", () -> x.road(8, 8, 1));
        Check.noIndex("2: the town ahead of the cost", () -> x.road(0, 8, 100));
        Check.noArgument("2: the same", () -> x.road(3, 3, 1));
        Check.noArgument("2: the same with none", () -> x.road(3, 3, 0));
        Check.noArgument("2: cost -1", () -> x.road(0, 1, -1));
        Check.noArgument("2: cost 100", () -> x.road(0, 1, 100));
        Check.noIndex("2: far out", () -> x.road(Integer.MAX_VALUE, Integer.MIN_VALUE, 5));
        Check.is("2: nothing is saved then", x.count(9), 0);
        Check.is("2: nothing is changed then", x.roadOf(0, 1), 10);
    }

    private static void exit() {
        LoafExits x = new LoafExits();
        Check.noIndex("3: town -1", () -> x.exit(-1, 0));
        Check.noIndex("3: town 8", () -> x.exit(8, 0));
        Check.noIndex("3: neighbour -1", () -> x.exit(0, -1));
        Check.noIndex("3: neighbour 4", () -> x.exit(0, 4));
        for (int k = 0; k < 8; k++) {
            Check.is("3: its number", x.exit(7 - k / 2, k % 4), k);
            Check.is("3: its town", x.exitOf(k, 0), 7 - k / 2);
            Check.is("3: its neighbour", x.exitOf(k, 1), k % 4);
            Check.is("3: it is open", x.exitOf(k, 2), 1);
            Check.is("3: no loaves", x.exitOf(k, 3), 0);
            Check.is("3: no costs", x.exitOf(k, 4), 0);
        }
        Check.noState("3: there are 8", () -> x.exit(0, 0));
        Check.noIndex("3: the town ahead of the 8", () -> x.exit(8, 0));
        Check.noIndex("3: the neighbour ahead of the 8", () -> x.exit(0, 4));
        Check.is("3: 8 of them", x.count(1), 8);
        x.undo();
        Check.is("3: the last one undone", x.count(1), 7);
        Check.is("3: its number again", x.exit(0, 3), 7);
        Check.is("3: its town anew", x.exitOf(7, 0), 0);
        x.turn(7);
        x.undo();
        x.undo();
        Check.is("3: open, though a closed one was undone", x.exit(1, 1), 7);
        Check.is("3: open", x.exitOf(7, 2), 1);
    }

    private static void turn() {
        LoafExits x = new LoafExits();
        Check.noIndex("4: there is none", () -> x.turn(0));
        x.exit(2, 1);
        Check.noIndex("4: exit -1", () -> x.turn(-1));
        Check.noIndex("4: exit 1", () -> x.turn(1));
        Check.is("4: closed", x.turn(0), 0);
        Check.is("4: it is closed", x.exitOf(0, 2), 0);
        Check.is("4: none is open", x.count(2), 0);
        Check.is("4: still there", x.count(1), 1);
        Check.is("4: opened", x.turn(0), 1);
        Check.is("4: it is open", x.exitOf(0, 2), 1);
        Check.is("4: saved", x.count(9), 3);
    }

    private static void offer() {
        LoafExits x = new LoafExits();
        Check.is("5: none before", x.offer(3, 2, 9), 0);
        Check.is("5: length", x.neighbourOf(3, 2), 9);
        Check.is("5: not the other way round", x.neighbourOf(2, 3), 0);
        Check.is("5: before", x.offer(3, 2, 1), 9);
        Check.is("5: one offer", x.count(3), 1);
        Check.is("5: no more", x.offer(3, 2, 0), 1);
        Check.is("5: no offer", x.count(3), 0);
        Check.is("5: saved", x.count(9), 3);
        Check.noIndex("5: neighbour -1", () -> x.offer(-1, 0, 1));
        Check.noIndex("5: neighbour 4", () -> x.offer(4, 0, 1));
        Check.noIndex("5: house -1", () -> x.offer(0, -1, 1));
        Check.noIndex("5: house 4", () -> x.offer(0, 4, 1));
        Check.noIndex("5: the house ahead of the length", () -> x.offer(0, 4, 10));
        Check.noArgument("5: length -1", () -> x.offer(0, 0, -1));
        Check.noArgument("5: length 10", () -> x.offer(0, 0, 10));
        Check.is("5: not saved", x.count(9), 3);
    }

    private static void bound() {
        LoafExits x = new LoafExits();
        Check.is("6: at first", x.bound(2, 99), 20);
        Check.is("6: before", x.bound(2, 0), 99);
        Check.is("6: now", x.neighbourOf(2, 4), 0);
        Check.is("6: only this one", x.neighbourOf(1, 4), 20);
        Check.is("6: saved", x.count(9), 2);
        Check.noIndex("6: neighbour -1", () -> x.bound(-1, 0));
        Check.noIndex("6: neighbour 4", () -> x.bound(4, 0));
        Check.noIndex("6: the neighbour ahead of the loaves", () -> x.bound(4, 100));
        Check.noArgument("6: loaves -1", () -> x.bound(0, -1));
        Check.noArgument("6: loaves 100", () -> x.bound(0, 100));
        Check.is("6: not saved", x.count(9), 2);
    }

    private static void set() {
        LoafExits x = new LoafExits();
        for (int setting = 0; setting < 2; setting++) {
            Check.is("7: at first", x.set(setting, 1), 0);
            Check.is("7: before", x.set(setting, 1), 1);
            Check.is("7: back", x.set(setting, 0), 1);
        }
        Check.is("7: saved", x.count(9), 6);
        Check.noIndex("7: setting -1", () -> x.set(-1, 0));
        Check.noIndex("7: setting 2", () -> x.set(2, 0));
        Check.noIndex("7: the setting ahead of the value", () -> x.set(2, 2));
        Check.noArgument("7: value -1", () -> x.set(0, -1));
        Check.noArgument("7: value 2", () -> x.set(1, 2));
    }

    private static void changesAreUndoable() {
        LoafExits x = new LoafExits();
        x.exit(0, 0);
        x.undo();
        Check.is("3: undone", x.count(1), 0);
        x.exit(0, 0);
        x.turn(0);
        x.undo();
        Check.is("4: undone", x.exitOf(0, 2), 1);
        x.road(0, 1, 0);
        x.undo();
        Check.is("2: undone", x.roadOf(1, 0), 10);
        Check.is("2: the distance too", x.distance(0, 7, 1), 70);
        x.offer(1, 1, 1);
        x.undo();
        Check.is("5: undone", x.neighbourOf(1, 1), 0);
        x.bound(1, 1);
        x.undo();
        Check.is("6: undone", x.neighbourOf(1, 4), 20);
        x.set(0, 1);
        x.undo();
        Check.is("7: undone", x.set(0, 0), 0);
    }
}
