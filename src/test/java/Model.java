import java.util.ArrayDeque;
import java.util.ArrayList;
import java.util.Arrays;
import java.util.Comparator;
import java.util.List;
import java.util.regex.Matcher;
import java.util.regex.Pattern;

/**
 * The document told a second time, by other means than the program's: lists and sorting for the
 * choice, repeated relaxing for the distances, a pattern for the day. Only the tests use it.
 */
final class Model {
    private static final int NONE = -1;
    private static final Pattern DAY = Pattern.compile(dayPattern());

    private static final class Door {
        int town;
        int neighbour;
        boolean open = true;
        int loaves;
        int costs;

        Door copy() {
            Door d = new Door();
            d.town = town;
            d.neighbour = neighbour;
            d.open = open;
            d.loaves = loaves;
            d.costs = costs;
            return d;
        }
    }

    private static final class State {
        int[][] road = new int[8][8];
        List<Door> doors = new ArrayList<>();
        int[][] offers = new int[4][4];
        int[] bounds = {20, 20, 20, 20};
        int[] came = new int[4];
        int[] since = new int[4];
        int[] ever = new int[4];
        int[] settings = new int[2];
        int[][] out = new int[8][4];
        int sent;
        int cold;
        int costs;

        State copy() {
            State s = new State();
            s.road = rows(road);
            for (Door d : doors) {
                s.doors.add(d.copy());
            }
            s.offers = rows(offers);
            s.bounds = bounds.clone();
            s.came = came.clone();
            s.since = since.clone();
            s.ever = ever.clone();
            s.settings = settings.clone();
            s.out = rows(out);
            s.sent = sent;
            s.cold = cold;
            s.costs = costs;
            return s;
        }
    }

    private State now = new State();
    private final State[] slots = new State[2];
    private final ArrayDeque<State> saved = new ArrayDeque<>();
    private String buffer = "";

    Model() {
        for (int k = 0; k < 7; k++) {
            now.road[k][k + 1] = 10;
            now.road[k + 1][k] = 10;
        }
    }

    private static String dayPattern() {
        StringBuilder unlike = new StringBuilder();
        for (int a = 0; a < 8; a++) {
            unlike.append(a == 0 ? "" : "|").append(a).append("[").append("01234567".replace("" + a, "")).append("]");
        }
        String order = "(?:s[0-7]>[0-3](?:\\*[2-9])?|r(?:" + unlike + ")=(?:0|[1-9][0-9]?)|x[0-7])";
        return order + "(?:;" + order + ")*";
    }

    private static int[][] rows(int[][] from) {
        int[][] to = new int[from.length][];
        for (int k = 0; k < from.length; k++) {
            to[k] = from[k].clone();
        }
        return to;
    }

    private static void index(boolean holds) {
        if (!holds) {
            throw new IndexOutOfBoundsException();
        }
    }

    private static void argument(boolean holds) {
        if (!holds) {
            throw new IllegalArgumentException();
        }
    }

    private static void state(boolean holds) {
        if (!holds) {
            throw new IllegalStateException();
        }
    }

    private static boolean in(int v, int least, int most) {
        return v >= least && v <= most;
    }

    private void save() {
        saved.addLast(now.copy());
        if (saved.size() > 6) {
            saved.removeFirst();
        }
    }

    public int road(int one, int other, int cost) {
        index(in(one, 0, 7) && in(other, 0, 7));
        argument(one != other && in(cost, 0, 99));
        save();
        int before = now.road[one][other];
        now.road[one][other] = cost;
        now.road[other][one] = cost;
        return before;
    }

    public int exit(int town, int neighbour) {
        index(in(town, 0, 7) && in(neighbour, 0, 3));
        state(now.doors.size() < 8);
        save();
        Door d = new Door();
        d.town = town;
        d.neighbour = neighbour;
        now.doors.add(d);
        return now.doors.size() - 1;
    }

    public int turn(int exit) {
        index(in(exit, 0, now.doors.size() - 1));
        save();
        Door d = now.doors.get(exit);
        d.open = !d.open;
        return d.open ? 1 : 0;
    }

    public int offer(int neighbour, int house, int length) {
        index(in(neighbour, 0, 3) && in(house, 0, 3));
        argument(in(length, 0, 9));
        save();
        int before = now.offers[neighbour][house];
        now.offers[neighbour][house] = length;
        return before;
    }

    public int bound(int neighbour, int loaves) {
        index(in(neighbour, 0, 3));
        argument(in(loaves, 0, 99));
        save();
        int before = now.bounds[neighbour];
        now.bounds[neighbour] = loaves;
        return before;
    }

    public int set(int setting, int value) {
        index(in(setting, 0, 1));
        argument(in(value, 0, 1));
        save();
        int before = now.settings[setting];
        now.settings[setting] = value;
        return before;
    }

    public int send(int town, int house) {
        index(in(town, 0, 7) && in(house, 0, 3));
        state(now.sent < 9999);
        save();
        return sendOne(town, house);
    }

    private int sendOne(int town, int house) {
        int e = chosen(now, town, house);
        now.sent++;
        if (e == NONE) {
            now.cold++;
            return NONE;
        }
        Door d = now.doors.get(e);
        int far = distances(now.road, town)[d.town];
        d.loaves++;
        d.costs += far;
        now.costs += far;
        now.out[town][house]++;
        if (++now.came[d.neighbour] > now.bounds[d.neighbour]) {
            now.since[d.neighbour]++;
            now.ever[d.neighbour]++;
        }
        return e;
    }

    public int settle() {
        save();
        int sum = Arrays.stream(now.since).sum();
        now.since = new int[4];
        now.came = new int[4];
        return sum;
    }

    public int append(int code) {
        argument(in(code, 33, 126));
        state(buffer.length() < 60);
        buffer += (char) code;
        return buffer.length();
    }

    public int clearBuffer() {
        int length = buffer.length();
        buffer = "";
        return length;
    }

    public int firstError() {
        for (int k = 1; k <= buffer.length(); k++) {
            Matcher m = DAY.matcher(buffer.substring(0, k));
            if (!m.matches() && !m.hitEnd()) {
                return k - 1;
            }
        }
        return buffer.length();
    }

    public int run() {
        argument(DAY.matcher(buffer).matches());
        save();
        int done = 0;
        for (String order : buffer.split(";")) {
            if (!follow(order)) {
                break;
            }
            done++;
        }
        buffer = "";
        return done;
    }

    private boolean follow(String order) {
        int a = order.charAt(1) - '0';
        if (order.startsWith("x")) {
            if (a >= now.doors.size()) {
                return false;
            }
            now.doors.get(a).open = !now.doors.get(a).open;
            return true;
        }
        if (order.startsWith("r")) {
            int b = order.charAt(2) - '0';
            int cost = Integer.parseInt(order.substring(4));
            now.road[a][b] = cost;
            now.road[b][a] = cost;
            return true;
        }
        String[] parts = order.substring(3).split("\\*");
        int loaves = parts.length > 1 ? Integer.parseInt(parts[1]) : 1;
        for (int k = 0; k < loaves; k++) {
            if (now.sent >= 9999) {
                return false;
            }
            sendOne(a, Integer.parseInt(parts[0]));
        }
        return true;
    }

    public int keep(int slot) {
        argument(in(slot, 0, 1));
        slots[slot] = now.copy();
        return now.sent;
    }

    public int goBack(int slot) {
        argument(in(slot, 0, 1));
        state(slots[slot] != null);
        save();
        now = slots[slot].copy();
        return now.sent;
    }

    public int undo() {
        state(!saved.isEmpty());
        now = saved.removeLast();
        return saved.size();
    }

    public int roadOf(int one, int other) {
        index(in(one, 0, 7) && in(other, 0, 7));
        return now.road[one][other];
    }

    private static int[] distances(int[][] road, int from) {
        int[] far = new int[8];
        Arrays.fill(far, NONE);
        far[from] = 0;
        for (int round = 0; round < 8; round++) {
            for (int a = 0; a < 8; a++) {
                for (int b = 0; b < 8; b++) {
                    if (far[a] != NONE && road[a][b] > 0 && (far[b] == NONE || far[b] > far[a] + road[a][b])) {
                        far[b] = far[a] + road[a][b];
                    }
                }
            }
        }
        return far;
    }

    public int distance(int one, int other, int what) {
        index(in(one, 0, 7) && in(other, 0, 7));
        argument(in(what, 0, 1));
        return distances(now.road, one)[other];
    }

    public int exitOf(int exit, int what) {
        index(in(exit, 0, now.doors.size() - 1));
        argument(in(what, 0, 4));
        Door d = now.doors.get(exit);
        return new int[] {d.town, d.neighbour, d.open ? 1 : 0, d.loaves, d.costs}[what];
    }

    public int neighbourOf(int neighbour, int what) {
        index(in(neighbour, 0, 3));
        argument(in(what, 0, 7));
        if (what < 4) {
            return now.offers[neighbour][what];
        }
        return new int[][] {now.bounds, now.came, now.since, now.ever}[what - 4][neighbour];
    }

    private static List<Integer> takeable(State s, int town, int house) {
        List<Integer> list = new ArrayList<>();
        int[] far = distances(s.road, town);
        for (int e = 0; e < s.doors.size(); e++) {
            Door d = s.doors.get(e);
            if (d.open && s.offers[d.neighbour][house] > 0 && far[d.town] != NONE) {
                list.add(e);
            }
        }
        return list;
    }

    private static Comparator<Integer> byLength(State s, int house) {
        return Comparator.comparingInt(e -> s.offers[s.doors.get(e).neighbour][house]);
    }

    private static Comparator<Integer> byDistance(State s, int town) {
        int[] far = distances(s.road, town);
        return Comparator.comparingInt(e -> far[s.doors.get(e).town]);
    }

    private static List<Integer> leastOf(List<Integer> list, Comparator<Integer> order) {
        List<Integer> least = new ArrayList<>();
        for (Integer e : list) {
            boolean beaten = false;
            for (Integer f : list) {
                beaten |= order.compare(f, e) < 0;
            }
            if (!beaten) {
                least.add(e);
            }
        }
        return least;
    }

    private static List<Integer> good(State s, int town, int house) {
        return leastOf(takeable(s, town, house), s.settings[0] == 0 ? byLength(s, house) : byDistance(s, town));
    }

    private static List<Integer> best(State s, int town, int house) {
        return leastOf(good(s, town, house), s.settings[0] == 0 ? byDistance(s, town) : byLength(s, house));
    }

    private static int chosen(State s, int town, int house) {
        List<Integer> best = best(s, town, house);
        if (best.isEmpty()) {
            return NONE;
        }
        return best.get(s.settings[1] == 0 ? 0 : s.out[town][house] % best.size());
    }

    private static int costOf(State s, int town, int house) {
        int e = chosen(s, town, house);
        return e == NONE ? NONE : distances(s.road, town)[s.doors.get(e).town];
    }

    private int next(int town, int house) {
        int e = chosen(now, town, house);
        if (e == NONE) {
            return NONE;
        }
        int goal = now.doors.get(e).town;
        int[] toGoal = distances(now.road, goal);
        for (int v = 0; v < 8; v++) {
            if (town != goal && now.road[town][v] > 0 && toGoal[v] >= 0 && now.road[town][v] + toGoal[v] == toGoal[town]) {
                return v;
            }
        }
        return goal;
    }

    public int choice(int town, int house, int what) {
        index(in(town, 0, 7) && in(house, 0, 3));
        argument(in(what, 0, 5));
        switch (what) {
            case 0: return chosen(now, town, house);
            case 1: return costOf(now, town, house);
            case 2: return best(now, town, house).size();
            case 3: return takeable(now, town, house).size();
            case 4: return now.out[town][house];
            default: return next(town, house);
        }
    }

    public int why(int town, int house, int exit) {
        index(in(town, 0, 7) && in(house, 0, 3) && in(exit, 0, now.doors.size() - 1));
        Door d = now.doors.get(exit);
        if (chosen(now, town, house) == exit) {
            return 0;
        }
        if (!d.open) {
            return 1;
        }
        if (now.offers[d.neighbour][house] == 0) {
            return 2;
        }
        if (distances(now.road, town)[d.town] == NONE) {
            return 3;
        }
        if (!good(now, town, house).contains(exit)) {
            return 4;
        }
        return best(now, town, house).contains(exit) ? 6 : 5;
    }

    public int count(int what) {
        argument(in(what, 0, 9));
        int n = 0;
        switch (what) {
            case 0:
                for (int[] row : now.road) {
                    for (int c : row) {
                        n += c > 0 ? 1 : 0;
                    }
                }
                return n / 2;
            case 1: return now.doors.size();
            case 2: return (int) now.doors.stream().filter(d -> d.open).count();
            case 3: return (int) Arrays.stream(now.offers).flatMapToInt(Arrays::stream).filter(l -> l > 0).count();
            case 4: return now.sent;
            case 5: return now.cold;
            case 6: return now.costs;
            case 7: return Arrays.stream(now.ever).sum();
            case 8:
                for (int pair = 0; pair < 32; pair++) {
                    n += takeable(now, pair / 4, pair % 4).isEmpty() ? 1 : 0;
                }
                return n;
            default: return saved.size();
        }
    }

    public int ifRoad(int one, int other, int cost) {
        index(in(one, 0, 7) && in(other, 0, 7));
        argument(one != other && in(cost, 0, 99));
        State s = now.copy();
        s.road[one][other] = cost;
        s.road[other][one] = cost;
        int n = 0;
        for (int pair = 0; pair < 32; pair++) {
            n += chosen(now, pair / 4, pair % 4) != chosen(s, pair / 4, pair % 4) ? 1 : 0;
        }
        return n;
    }

    public int dearest() {
        int found = NONE;
        int most = -1;
        for (int e = 0; e < now.doors.size(); e++) {
            State s = now.copy();
            s.doors.get(e).open = false;
            int n = 0;
            for (int pair = 0; pair < 32; pair++) {
                int before = costOf(now, pair / 4, pair % 4);
                int after = costOf(s, pair / 4, pair % 4);
                n += before != NONE && (after == NONE || after > before) ? 1 : 0;
            }
            if (now.doors.get(e).open && n > most) {
                most = n;
                found = e;
            }
        }
        return found;
    }

    public int idle(int one, int other) {
        index(in(one, 0, 7) && in(other, 0, 7));
        argument(one != other);
        for (int cost = 1; cost <= 99; cost++) {
            int[][] road = rows(now.road);
            road[one][other] = cost;
            road[other][one] = cost;
            if (distances(road, one)[other] < cost) {
                return cost;
            }
        }
        return NONE;
    }

    public double hotShare() {
        return now.sent == 0 ? 1.0 : (double) (now.sent - now.cold) / now.sent;
    }

    public long digest() {
        List<Long> list = new ArrayList<>();
        for (int k = 0; k < 10; k++) {
            list.add((long) count(k));
        }
        list.add((long) now.settings[0]);
        list.add((long) now.settings[1]);
        for (int pair = 0; pair < 64; pair++) {
            list.add((long) roadOf(pair / 8, pair % 8));
            list.add((long) distance(pair / 8, pair % 8, 0));
        }
        for (int k = 0; k < 5 * now.doors.size(); k++) {
            list.add((long) exitOf(k / 5, k % 5));
        }
        for (int k = 0; k < 32; k++) {
            list.add((long) neighbourOf(k / 8, k % 8));
        }
        for (int k = 0; k < 8 * 4 * 6; k++) {
            list.add((long) choice(k / 24, k / 6 % 4, k % 6));
        }
        for (int e = 0; e < now.doors.size(); e++) {
            list.add((long) why(0, 0, e));
        }
        list.add((long) ifRoad(0, 7, 5));
        list.add((long) dearest());
        list.add((long) idle(0, 7));
        list.add(Double.doubleToLongBits(hotShare()));
        list.add(slots[0] == null ? 0L : 1L);
        list.add(slots[1] == null ? 0L : 1L);
        list.add((long) buffer.length());
        buffer.chars().forEach(c -> list.add((long) c));
        long hash = 3271;
        for (long v : list) {
            hash = 31 * hash + v;
        }
        return hash;
    }
}
