import java.util.ArrayList;
import java.util.LinkedHashMap;
import java.util.List;
import java.util.Map;

/** What the tests of edges share: each of them names the sentence of the document that it is for. */
abstract class Edges {
    static final int NONE = LoafExits.NONE;
    static final String TERMS = "Terms";

    /** By section of the document, the words that have a test. */
    private static final Map<String, List<String>> NAMED = new LinkedHashMap<>();

    interface Of {
        long answer(int value);
    }

    /** The checks from here on are for these words of this promise. */
    static void promise(int number, String words) {
        name("Promise " + number, words);
        Check.at("promise " + number + ", \"" + words + "\"");
    }

    /** The checks from here on are for these words of the terms, which these promises build on. */
    static void terms(String promises, String words) {
        name(TERMS, words);
        Check.at("terms of promise " + promises + ", \"" + words + "\"");
    }

    private static void name(String section, String words) {
        NAMED.computeIfAbsent(section, s -> new ArrayList<>()).add(words);
    }

    static List<String> named(String section) {
        return NAMED.getOrDefault(section, new ArrayList<>());
    }

    /** An exception that no check expects is a wrong answer to the sentence at hand; the other tests go on. */
    static void test(Runnable test) {
        try {
            test.run();
        } catch (RuntimeException e) {
            Check.isTrue("ended by " + e, false);
        }
    }

    static LoafExits write(LoafExits x, String text) {
        for (int k = 0; k < text.length(); k++) {
            x.append(text.charAt(k));
        }
        return x;
    }

    static LoafExits written(String text) {
        return write(new LoafExits(), text);
    }

    /** One exit at this town to neighbour 0, who offers a way of length 1 to house 0. */
    static LoafExits oneExit(int town) {
        LoafExits x = new LoafExits();
        x.exit(town, 0);
        x.offer(0, 0, 1);
        return x;
    }

    /** Exits at these towns to the neighbours 0, 1, 2, .., who all offer ways of length 5 to house 0. */
    static LoafExits exitsAt(int... towns) {
        LoafExits x = new LoafExits();
        for (int k = 0; k < towns.length; k++) {
            x.exit(towns[k], k % 4);
        }
        for (int neighbour = 0; neighbour < 4; neighbour++) {
            x.offer(neighbour, 0, 5);
        }
        return x;
    }

    /** A land in which nothing is as at first, with saved states, a snapshot and a begun text. */
    static LoafExits usedLand() {
        LoafExits x = new LoafExits();
        x.road(0, 7, 25);
        x.road(3, 4, 12);
        x.exit(1, 0);
        x.exit(6, 1);
        x.exit(6, 2);
        x.offer(0, 0, 3);
        x.offer(1, 0, 2);
        x.offer(2, 0, 2);
        x.offer(2, 3, 9);
        x.bound(1, 1);
        x.set(1, 1);
        x.keep(1);
        for (int town = 0; town < 8; town++) {
            x.send(town, 0);
        }
        x.send(4, 2);
        x.turn(0);
        return write(x, "s0>");
    }

    static void send(LoafExits x, int town, int house, int times) {
        for (int k = 0; k < times; k++) {
            x.send(town, house);
        }
    }

    static void onlyTowns(Of call) {
        only(0, 7, IndexOutOfBoundsException.class, call);
    }

    static void onlyNeighbours(Of call) {
        only(0, 3, IndexOutOfBoundsException.class, call);
    }

    static void onlyHouses(Of call) {
        only(0, 3, IndexOutOfBoundsException.class, call);
    }

    static void onlyValues(int first, int last, Of call) {
        only(first, last, IllegalArgumentException.class, call);
    }

    /** All numbers from first to last are taken; those beside them, and far out, are refused. */
    static void only(int first, int last, Class<? extends RuntimeException> due, Of call) {
        int[] outside = {first - 1, last + 1, first - 2, last + 2, first - 256, last + 256, first + 65536,
            Integer.MIN_VALUE, Integer.MIN_VALUE + first, Integer.MAX_VALUE};
        for (int value : outside) {
            Check.refuses("with " + value, due, () -> call.answer(value));
        }
        for (int k = first; k <= last; k++) {
            int value = k;
            Check.takes("with " + value, () -> call.answer(value));
        }
    }

    /** One state more is saved, and undo restores the state from before. For a call that leaves the buffer. */
    static void undoable(LoafExits x, Check.Call call) {
        long before = x.digest();
        int saved = x.count(9);
        x.ifRoad(0, 7, 63);
        Check.takes("the call", call);
        Check.is("saved states behind it", x.count(9), Math.min(saved + 1, 6));
        Check.is("undo", x.undo(), Math.min(saved, 5));
        if (saved < 6) {
            Check.is("the digest as before", x.digest(), before);
        }
    }

    /** No state is saved; the latest saved one is the one from before road 2 - 5. */
    static void notUndoable(LoafExits x, Check.Call call) {
        x.road(2, 5, 98);
        int saved = x.count(9);
        Check.takes("the call", call);
        Check.is("saved states behind it", x.count(9), saved);
        x.undo();
        Check.is("undo takes back the call ahead of it", x.roadOf(2, 5), 0);
    }

    /** The call is refused, and the whole state is as before. */
    static void refusedWithoutChange(LoafExits x, Class<? extends RuntimeException> due, Check.Call call) {
        long before = x.digest();
        Check.refuses("the call", due, call);
        Check.is("the digest behind it", x.digest(), before);
    }

    /** Neither the state nor what undo restores is changed. */
    static void changesNothing(LoafExits x, Check.Call call) {
        long before = x.digest();
        call.answer();
        Check.is("the digest behind it", x.digest(), before);
    }
}
