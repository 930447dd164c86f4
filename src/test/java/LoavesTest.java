/** Promises 8 and 9: send and settle, with choosing, turns and complaints. */
public final class LoavesTest {
    public static void main(String[] args) {
        coldLoaf();
        shortestThenNearest();
        nearestThenShortest();
        lowestNumber();
        byTurns();
        turnsCountAllThatWentOut();
        complaints();
        complaintsStay();
        settle();
        sendRefuses();
        sendIsUndoable();
        mostLoaves();
        Check.end("LoavesTest");
    }

    private static void coldLoaf() {
        LoafExits x = new LoafExits();
        Check.is("8: no exit", x.send(3, 2), LoafExits.NONE);
        Check.is("8: sent", x.count(4), 1);
        Check.is("8: cold", x.count(5), 1);
        Check.is("8: no costs", x.count(6), 0);
        Check.is("8: did not go out", x.choice(3, 2, 4), 0);
        Check.is("8: saved", x.count(9), 1);
    }

    /** Exits at 1, 3, 6 for a loaf of town 2: lengths 5, 4, 4. */
    private static LoafExits threeExits() {
        LoafExits x = new LoafExits();
        x.exit(1, 0);
        x.exit(6, 1);
        x.exit(3, 2);
        x.offer(0, 0, 5);
        x.offer(1, 0, 4);
        x.offer(2, 0, 4);
        return x;
    }

    private static void shortestThenNearest() {
        LoafExits x = threeExits();
        Check.is("8: the nearest of the shortest", x.send(2, 0), 2);
        Check.is("8: its loaves", x.exitOf(2, 3), 1);
        Check.is("8: its costs", x.exitOf(2, 4), 10);
        Check.is("8: the far one", x.send(7, 0), 1);
        Check.is("8: all costs", x.count(6), 20);
        Check.is("8: the long one is not taken at its door", x.send(1, 0), 2);
        Check.is("8: costs of two loaves", x.exitOf(2, 4), 30);
        Check.is("8: here", x.send(3, 0), 2);
        Check.is("8: without costs", x.exitOf(2, 4), 30);
        Check.is("8: three loaves", x.exitOf(2, 3), 3);
        Check.is("8: came", x.neighbourOf(2, 5), 3);
        Check.is("8: went out", x.choice(2, 0, 4), 1);
        Check.is("8: not to another house", x.choice(2, 1, 4), 0);
        Check.is("8: none was cold", x.count(5), 0);
    }

    private static void nearestThenShortest() {
        LoafExits x = threeExits();
        x.set(0, 1);
        Check.is("8: the shortest of the nearest", x.send(2, 0), 2);
        Check.is("8: the nearest, though long", x.send(1, 0), 0);
        x.offer(0, 0, 3);
        Check.is("8: shorter now", x.send(2, 0), 0);
        x.turn(0);
        Check.is("8: closed", x.send(1, 0), 2);
        x.road(1, 2, 0);
        Check.is("8: no way", x.send(1, 0), LoafExits.NONE);
    }

    private static void lowestNumber() {
        LoafExits x = new LoafExits();
        x.exit(4, 1);
        x.exit(2, 0);
        x.exit(4, 2);
        for (int neighbour = 0; neighbour < 3; neighbour++) {
            x.offer(neighbour, 3, 7);
        }
        for (int k = 0; k < 3; k++) {
            Check.is("8: the lowest of three best", x.send(3, 3), 0);
        }
        Check.is("8: three best", x.choice(3, 3, 2), 3);
    }

    private static void byTurns() {
        LoafExits x = new LoafExits();
        x.exit(4, 1);
        x.exit(2, 0);
        x.exit(4, 2);
        x.exit(5, 2);
        for (int neighbour = 0; neighbour < 3; neighbour++) {
            x.offer(neighbour, 3, 7);
            x.offer(neighbour, 1, 7);
        }
        x.set(1, 1);
        for (int k = 0; k < 7; k++) {
            Check.is("8: by turns " + k, x.send(3, 3), k % 3);
        }
        Check.is("8: each house has its own turns", x.send(3, 1), 0);
        Check.is("8: a town with one best", x.send(2, 3), 1);
        x.turn(0);
        Check.is("8: 7 modulo 2 is 1", x.send(3, 3), 2);
        Check.is("8: 8 modulo 2 is 0", x.send(3, 3), 1);
        x.set(1, 0);
        Check.is("8: without turns", x.send(3, 3), 1);
    }

    private static void turnsCountAllThatWentOut() {
        LoafExits x = new LoafExits();
        x.exit(0, 0);
        x.exit(0, 0);
        Check.is("8: cold", x.send(0, 0), LoafExits.NONE);
        x.offer(0, 0, 1);
        Check.is("8: one went out without turns", x.send(0, 0), 0);
        x.set(1, 1);
        Check.is("8: it counts, the cold one does not", x.send(0, 0), 1);
    }

    private static void complaints() {
        LoafExits x = new LoafExits();
        x.exit(0, 3);
        x.offer(3, 0, 1);
        x.bound(3, 2);
        for (int k = 0; k < 2; k++) {
            x.send(0, 0);
            Check.is("8: within the bound", x.neighbourOf(3, 6), 0);
        }
        x.send(1, 0);
        Check.is("8: one beyond", x.neighbourOf(3, 6), 1);
        x.send(2, 0);
        Check.is("8: two beyond", x.neighbourOf(3, 6), 2);
        Check.is("8: so far", x.neighbourOf(3, 7), 2);
        Check.is("8: came", x.neighbourOf(3, 5), 4);
        Check.is("8: of all", x.count(7), 2);
        Check.is("8: none of another", x.neighbourOf(0, 7), 0);
    }

    private static void complaintsStay() {
        LoafExits x = new LoafExits();
        x.exit(0, 0);
        x.offer(0, 0, 1);
        x.bound(0, 0);
        x.send(0, 0);
        Check.is("8: bound 0", x.neighbourOf(0, 6), 1);
        x.bound(0, 3);
        Check.is("6: a complaint stays", x.neighbourOf(0, 6), 1);
        x.send(0, 0);
        x.send(0, 0);
        Check.is("8: within the bound of then", x.neighbourOf(0, 6), 1);
        x.bound(0, 1);
        Check.is("6: no complaint of loaves that came", x.neighbourOf(0, 6), 1);
        x.send(0, 0);
        Check.is("8: beyond the bound of then", x.neighbourOf(0, 6), 2);
    }

    private static void settle() {
        LoafExits x = new LoafExits();
        Check.is("9: nothing", x.settle(), 0);
        x.exit(0, 0);
        x.exit(7, 1);
        x.offer(0, 0, 1);
        x.offer(1, 1, 1);
        x.bound(0, 0);
        x.bound(1, 1);
        for (int k = 0; k < 3; k++) {
            x.send(0, 0);
            x.send(0, 1);
        }
        Check.is("9: of both", x.settle(), 5);
        Check.is("9: anew", x.settle(), 0);
        for (int neighbour = 0; neighbour < 2; neighbour++) {
            Check.is("9: came", x.neighbourOf(neighbour, 5), 0);
            Check.is("9: since", x.neighbourOf(neighbour, 6), 0);
            Check.is("9: so far", x.neighbourOf(neighbour, 7), 3 - neighbour);
        }
        Check.is("9: all so far", x.count(7), 5);
        Check.is("9: the bounds stay", x.neighbourOf(1, 4), 1);
        Check.is("9: exits keep their loaves", x.exitOf(0, 3), 3);
        Check.is("9: towns keep theirs", x.choice(0, 0, 4), 3);
        x.send(0, 1);
        Check.is("9: the first one is within the bound again", x.neighbourOf(1, 6), 0);
        x.undo();
        x.undo();
        x.undo();
        Check.is("9: undone", x.neighbourOf(1, 6), 2);
        Check.is("9: undone too", x.neighbourOf(1, 5), 3);
    }

    private static void sendRefuses() {
        LoafExits x = new LoafExits();
        Check.noIndex("8: town -1", () -> x.send(-1, 0));
        Check.noIndex("8: town 8", () -> x.send(8, 0));
        Check.noIndex("8: house -1", () -> x.send(0, -1));
        Check.noIndex("8: house 4", () -> x.send(0, 4));
        Check.is("8: nothing is sent then", x.count(4), 0);
        Check.is("8: nothing is saved then", x.count(9), 0);
    }

    private static void sendIsUndoable() {
        LoafExits x = threeExits();
        x.bound(2, 0);
        x.send(2, 0);
        x.undo();
        Check.is("8: not sent", x.count(4), 0);
        Check.is("8: no costs", x.count(6), 0);
        Check.is("8: no complaint", x.count(7), 0);
        Check.is("8: did not leave", x.exitOf(2, 3), 0);
        Check.is("8: its costs", x.exitOf(2, 4), 0);
        Check.is("8: did not come", x.neighbourOf(2, 5), 0);
        Check.is("8: did not go out", x.choice(2, 0, 4), 0);
    }

    /** No object can send so many within its 512 calls, but the document names the edge. */
    private static void mostLoaves() {
        LoafExits x = new LoafExits();
        x.exit(0, 0);
        x.offer(0, 0, 1);
        for (int k = 0; k < 9996; k++) {
            x.send(0, 0);
        }
        String day = "x0;s0>0*2;x0;s0>0*9;x0";
        for (int k = 0; k < day.length(); k++) {
            x.append(day.charAt(k));
        }
        Check.is("13: stops within the fourth order", x.run(), 3);
        Check.is("8: the one ahead of the end is sent", x.count(4), 9999);
        Check.is("8: two were cold", x.exitOf(0, 3), 9997);
        Check.is("13: nothing behind it is done", x.exitOf(0, 2), 1);
        Check.noState("8: 9999 were sent", () -> x.send(0, 0));
        Check.noIndex("8: the town ahead of the 9999", () -> x.send(8, 0));
        Check.noIndex("8: the house ahead of the 9999", () -> x.send(0, 4));
        x.undo();
        Check.is("8: room again", x.send(0, 0), 0);
    }
}
