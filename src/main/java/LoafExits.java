/**
 * Hot loaves that leave a land by the nearest exit, as ../shared/DOC.md tells it.
 *
 * The classes inside answer any index, with NONE, 0 or no change for one that is not there: so no
 * array is reached untested, and only the methods of the face decide what is an exception.
 * All rows are made with the object and used again, because no call may fill the room of a run.
 */
public final class LoafExits {
    /** There is nothing to return. */
    public static final int NONE = -1;

    private static final int TOWNS = 8;
    private static final int HOUSES = 4;
    private static final int NEIGHBOURS = 4;
    private static final int EXITS = 8;
    private static final int SETTINGS = 2;
    private static final int SLOTS = 2;
    private static final int SAVED_STATES = 6;
    private static final int CHARACTERS = 60;

    private static final int GREATEST_COST = 99;
    private static final int GREATEST_LENGTH = 9;
    private static final int GREATEST_BOUND = 99;
    private static final int MOST_LOAVES = 9999;
    private static final int FIRST_CODE = 33;
    private static final int LAST_CODE = 126;

    private static final int COST_AT_FIRST = 10;
    private static final int BOUND_AT_FIRST = 20;

    private static final int NEAREST_FIRST = 0;
    private static final int BY_TURNS = 1;

    /** Above every distance, and twice it is still an int. */
    private static final int FAR = 1000000;

    private static final long HASH_AT_FIRST = 3271L;
    private static final long EXPONENT_OF_ONE = 1023L;
    private static final int FRACTION_BITS = 52;
    private static final int MOST_DOUBLINGS = 64;

    private final Land now = new Land();
    private final Land trial = new Land();
    private final Chooser chooser = new Chooser();
    private final Nearest nearest = new Nearest();
    private final Text text = new Text();
    private final Shelf slots = new Shelf(SLOTS);
    private final History history = new History();

    public LoafExits() {
    }

    // ---- the land

    public int road(int one, int other, int cost) throws IndexOutOfBoundsException, IllegalArgumentException {
        needTwoTowns(one, other);
        needCost(cost);
        history.save(now);
        return now.roads.lay(one, other, cost);
    }

    public int exit(int town, int neighbour) throws IndexOutOfBoundsException, IllegalStateException {
        needTown(town);
        needNeighbour(neighbour);
        if (now.exits.isFull()) {
            throw new IllegalStateException("there are 8 exits");
        }
        history.save(now);
        return now.exits.add(town, neighbour);
    }

    public int turn(int exit) throws IndexOutOfBoundsException {
        needExit(exit);
        history.save(now);
        now.exits.flip(exit);
        return now.exits.isOpen(exit) ? 1 : 0;
    }

    public int offer(int neighbour, int house, int length) throws IndexOutOfBoundsException, IllegalArgumentException {
        needNeighbour(neighbour);
        needHouse(house);
        needFromZero(length, GREATEST_LENGTH);
        history.save(now);
        return now.neighbours.changeLength(neighbour, house, length);
    }

    public int bound(int neighbour, int loaves) throws IndexOutOfBoundsException, IllegalArgumentException {
        needNeighbour(neighbour);
        needFromZero(loaves, GREATEST_BOUND);
        history.save(now);
        return now.neighbours.changeBound(neighbour, loaves);
    }

    public int set(int setting, int value) throws IndexOutOfBoundsException, IllegalArgumentException {
        if (setting < 0 || setting >= SETTINGS) {
            throw new IndexOutOfBoundsException("no such setting");
        }
        needFromZero(value, 1);
        history.save(now);
        return now.changeSetting(setting, value);
    }

    // ---- loaves

    public int send(int town, int house) throws IndexOutOfBoundsException, IllegalStateException {
        needTown(town);
        needHouse(house);
        if (now.sent >= MOST_LOAVES) {
            throw new IllegalStateException("9999 loaves were sent");
        }
        history.save(now);
        return sendLoaf(town, house);
    }

    public int settle() {
        history.save(now);
        return now.neighbours.beginAnew();
    }

    // ---- texts, snapshots

    public int append(int code) throws IllegalArgumentException, IllegalStateException {
        if (code < FIRST_CODE || code > LAST_CODE) {
            throw new IllegalArgumentException("the code is not 33 to 126");
        }
        if (text.isFull()) {
            throw new IllegalStateException("the buffer has 60 characters");
        }
        return text.add(code);
    }

    public int clearBuffer() {
        return text.wipe();
    }

    public int firstError() {
        return text.firstFault();
    }

    public int run() throws IllegalArgumentException {
        if (!text.isDay()) {
            throw new IllegalArgumentException("the buffer does not tell a day");
        }
        history.save(now);
        int done = 0;
        for (int at = 0; at < text.length(); at++) {
            if (text.beginsOrder(at)) {
                if (!isOrderDone(at)) {
                    break;
                }
                done++;
            }
        }
        text.wipe();
        return done;
    }

    public int keep(int slot) throws IllegalArgumentException {
        needSlot(slot);
        slots.put(slot, now);
        return now.sent;
    }

    public int goBack(int slot) throws IllegalArgumentException, IllegalStateException {
        needSlot(slot);
        if (!slots.holds(slot)) {
            throw new IllegalStateException("there is no snapshot in the slot");
        }
        history.save(now);
        slots.copyTo(slot, now);
        return now.sent;
    }

    public int undo() throws IllegalStateException {
        if (history.size() == 0) {
            throw new IllegalStateException("there is no saved state");
        }
        history.restore(now);
        return history.size();
    }

    // ---- looks; nothing is changed

    public int roadOf(int one, int other) throws IndexOutOfBoundsException {
        needTown(one);
        needTown(other);
        return now.roads.cost(one, other);
    }

    public int distance(int one, int other, int what) throws IndexOutOfBoundsException, IllegalArgumentException {
        needTown(one);
        needTown(other);
        needFromZero(what, 1);
        return what == 0 ? nearest.way(now.roads, one, other) : now.roads.way(one, other);
    }

    public int exitOf(int exit, int what) throws IndexOutOfBoundsException, IllegalArgumentException {
        needExit(exit);
        needFromZero(what, 4);
        switch (what) {
            case 0:
                return now.exits.town(exit);
            case 1:
                return now.exits.neighbour(exit);
            case 2:
                return now.exits.isOpen(exit) ? 1 : 0;
            case 3:
                return now.exits.loaves(exit);
            default:
                return now.exits.costs(exit);
        }
    }

    public int neighbourOf(int neighbour, int what) throws IndexOutOfBoundsException, IllegalArgumentException {
        needNeighbour(neighbour);
        needFromZero(what, 7);
        switch (what) {
            case 4:
                return now.neighbours.boundOf(neighbour);
            case 5:
                return now.neighbours.came(neighbour);
            case 6:
                return now.neighbours.complaintsSince(neighbour);
            case 7:
                return now.neighbours.complaintsSoFar(neighbour);
            default:
                return now.neighbours.length(neighbour, what);
        }
    }

    public int choice(int town, int house, int what) throws IndexOutOfBoundsException, IllegalArgumentException {
        needTown(town);
        needHouse(house);
        needFromZero(what, 5);
        chooser.look(now, town, house);
        switch (what) {
            case 0:
                return chooser.exit;
            case 1:
                return chooser.cost;
            case 2:
                return chooser.best;
            case 3:
                return chooser.takeable;
            case 4:
                return now.loavesOut(town, house);
            default:
                return now.roads.nextTown(town, now.exits.town(chooser.exit));
        }
    }

    public int why(int town, int house, int exit) throws IndexOutOfBoundsException {
        needTown(town);
        needHouse(house);
        needExit(exit);
        chooser.look(now, town, house);
        return chooser.reasonAgainst(now, town, house, exit);
    }

    public int count(int what) throws IllegalArgumentException {
        needFromZero(what, 9);
        switch (what) {
            case 0:
                return now.roads.number();
            case 1:
                return now.exits.size();
            case 2:
                return now.exits.openOnes();
            case 3:
                return now.neighbours.ways();
            case 4:
                return now.sent;
            case 5:
                return now.cold;
            case 6:
                return now.costs;
            case 7:
                return now.neighbours.allComplaints();
            case 8:
                return pairsWithoutExit();
            default:
                return history.size();
        }
    }

    // ---- what would be; nothing is changed

    public int ifRoad(int one, int other, int cost) throws IndexOutOfBoundsException, IllegalArgumentException {
        needTwoTowns(one, other);
        needCost(cost);
        trial.copyFrom(now);
        trial.roads.lay(one, other, cost);
        return pairsOtherOnTrial();
    }

    public int dearest() {
        trial.copyFrom(now);
        int found = NONE;
        int most = NONE;
        for (int exit = 0; exit < now.exits.size(); exit++) {
            int dearer = now.exits.isOpen(exit) ? pairsDearerWithout(exit) : NONE;
            if (dearer > most) {
                most = dearer;
                found = exit;
            }
        }
        return found;
    }

    public int idle(int one, int other) throws IndexOutOfBoundsException, IllegalArgumentException {
        needTwoTowns(one, other);
        trial.roads.copyFrom(now.roads);
        trial.roads.lay(one, other, 0);
        int around = trial.roads.way(one, other);
        return around != NONE && around < GREATEST_COST ? around + 1 : NONE;
    }

    public double hotShare() {
        if (now.sent == 0) {
            return 1.0;
        }
        return (double) (now.sent - now.cold) / (double) now.sent;
    }

    public long digest() {
        long hash = HASH_AT_FIRST;
        hash = withCounts(hash);
        hash = joined(hash, now.setting(0));
        hash = joined(hash, now.setting(1));
        hash = withRoads(hash);
        hash = withExits(hash);
        hash = withNeighbours(hash);
        hash = withChoices(hash);
        hash = withReasons(hash);
        hash = joined(hash, ifRoad(0, 7, 5));
        hash = joined(hash, dearest());
        hash = joined(hash, idle(0, 7));
        hash = joined(hash, bitsOfShare(hotShare()));
        hash = withSlots(hash);
        return withText(hash);
    }

    // ---- what is refused

    private static boolean isTown(int town) {
        return town >= 0 && town < TOWNS;
    }

    private static boolean isHouse(int house) {
        return house >= 0 && house < HOUSES;
    }

    private static boolean isNeighbour(int neighbour) {
        return neighbour >= 0 && neighbour < NEIGHBOURS;
    }

    private static void needTown(int town) {
        if (!isTown(town)) {
            throw new IndexOutOfBoundsException("no such town");
        }
    }

    private static void needTwoTowns(int one, int other) {
        needTown(one);
        needTown(other);
        if (one == other) {
            throw new IllegalArgumentException("both towns are the same");
        }
    }

    private static void needHouse(int house) {
        if (!isHouse(house)) {
            throw new IndexOutOfBoundsException("no such house");
        }
    }

    private static void needNeighbour(int neighbour) {
        if (!isNeighbour(neighbour)) {
            throw new IndexOutOfBoundsException("no such neighbour");
        }
    }

    private void needExit(int exit) {
        if (!now.exits.has(exit)) {
            throw new IndexOutOfBoundsException("no such exit");
        }
    }

    private static void needCost(int cost) {
        needFromZero(cost, GREATEST_COST);
    }

    private static void needSlot(int slot) {
        needFromZero(slot, SLOTS - 1);
    }

    private static void needFromZero(int value, int greatest) {
        if (value < 0 || value > greatest) {
            throw new IllegalArgumentException("a value is out of range");
        }
    }

    // ---- what is done

    private int sendLoaf(int town, int house) {
        chooser.look(now, town, house);
        now.takeLoaf(town, house, chooser.exit, chooser.cost);
        return chooser.exit;
    }

    private boolean isOrderDone(int at) {
        switch (text.code(at)) {
            case 's':
                return areLoavesSent(text.digit(at + 1), text.digit(at + 3), text.loaves(at));
            case 'r':
                now.roads.lay(text.digit(at + 1), text.digit(at + 2), text.cost(at));
                return true;
            default:
                return isExitTurned(text.digit(at + 1));
        }
    }

    private boolean areLoavesSent(int town, int house, int loaves) {
        for (int loaf = 0; loaf < loaves; loaf++) {
            if (now.sent >= MOST_LOAVES) {
                return false;
            }
            sendLoaf(town, house);
        }
        return true;
    }

    private boolean isExitTurned(int exit) {
        boolean there = now.exits.has(exit);
        now.exits.flip(exit);
        return there;
    }

    // ---- what is told of all pairs of a town and a house

    private int pairsWithoutExit() {
        int pairs = 0;
        for (int town = 0; town < TOWNS; town++) {
            for (int house = 0; house < HOUSES; house++) {
                chooser.look(now, town, house);
                pairs += chooser.takeable == 0 ? 1 : 0;
            }
        }
        return pairs;
    }

    private int pairsDearerWithout(int exit) {
        int pairs = 0;
        trial.exits.flip(exit);
        for (int town = 0; town < TOWNS; town++) {
            for (int house = 0; house < HOUSES; house++) {
                chooser.look(now, town, house);
                int before = chooser.cost;
                chooser.look(trial, town, house);
                boolean dearer = chooser.cost == NONE || chooser.cost > before;
                pairs += before != NONE && dearer ? 1 : 0;
            }
        }
        trial.exits.flip(exit);
        return pairs;
    }

    private int pairsOtherOnTrial() {
        int pairs = 0;
        for (int town = 0; town < TOWNS; town++) {
            for (int house = 0; house < HOUSES; house++) {
                chooser.look(now, town, house);
                int before = chooser.exit;
                chooser.look(trial, town, house);
                pairs += chooser.exit != before ? 1 : 0;
            }
        }
        return pairs;
    }

    // ---- the hash

    private static long joined(long hash, long value) {
        return 31L * hash + value;
    }

    private long withCounts(long begun) {
        long hash = begun;
        for (int what = 0; what <= 9; what++) {
            hash = joined(hash, count(what));
        }
        return hash;
    }

    private long withRoads(long begun) {
        long hash = begun;
        for (int one = 0; one < TOWNS; one++) {
            for (int other = 0; other < TOWNS; other++) {
                hash = joined(hash, roadOf(one, other));
                hash = joined(hash, distance(one, other, 0));
            }
        }
        return hash;
    }

    private long withExits(long begun) {
        long hash = begun;
        for (int exit = 0; exit < now.exits.size(); exit++) {
            for (int what = 0; what <= 4; what++) {
                hash = joined(hash, exitOf(exit, what));
            }
        }
        return hash;
    }

    private long withNeighbours(long begun) {
        long hash = begun;
        for (int neighbour = 0; neighbour < NEIGHBOURS; neighbour++) {
            for (int what = 0; what <= 7; what++) {
                hash = joined(hash, neighbourOf(neighbour, what));
            }
        }
        return hash;
    }

    private long withChoices(long begun) {
        long hash = begun;
        for (int town = 0; town < TOWNS; town++) {
            for (int house = 0; house < HOUSES; house++) {
                for (int what = 0; what <= 5; what++) {
                    hash = joined(hash, choice(town, house, what));
                }
            }
        }
        return hash;
    }

    private long withReasons(long begun) {
        long hash = begun;
        for (int exit = 0; exit < now.exits.size(); exit++) {
            hash = joined(hash, why(0, 0, exit));
        }
        return hash;
    }

    private long withSlots(long begun) {
        long hash = begun;
        for (int slot = 0; slot < SLOTS; slot++) {
            hash = joined(hash, slots.holds(slot) ? 1 : 0);
        }
        return hash;
    }

    private long withText(long begun) {
        long hash = joined(begun, text.length());
        for (int at = 0; at < text.length(); at++) {
            hash = joined(hash, text.code(at));
        }
        return hash;
    }

    /**
     * The bits of a double from 0 to 1, told by its halves, because the library that is left has no
     * doubleToLongBits. A share is 0 or at least 1 of 9999, so it is never a subnormal one.
     */
    private static long bitsOfShare(double share) {
        if (share <= 0.0) {
            return 0L;
        }
        double part = share;
        long exponent = EXPONENT_OF_ONE;
        for (int doubling = 0; doubling < MOST_DOUBLINGS && part < 1.0; doubling++) {
            part = part * 2.0;
            exponent--;
        }
        long units = 1L << FRACTION_BITS;
        return exponent * units + (long) ((part - 1.0) * (double) units);
    }

    private static void copyRow(int[] from, int[] to) {
        System.arraycopy(from, 0, to, 0, Math.min(from.length, to.length));
    }

    /** The roads with the distances by them, which are measured at each change and not at each look. */
    private static final class Roads {
        private final int[] costs = new int[TOWNS * TOWNS];
        private final int[] ways = new int[TOWNS * TOWNS];

        Roads() {
            for (int town = 0; town < TOWNS - 1; town++) {
                costs[town * TOWNS + town + 1] = COST_AT_FIRST;
                costs[(town + 1) * TOWNS + town] = COST_AT_FIRST;
            }
            measure();
        }

        void copyFrom(Roads from) {
            copyRow(from.costs, costs);
            copyRow(from.ways, ways);
        }

        int cost(int one, int other) {
            return isTown(one) && isTown(other) ? costs[one * TOWNS + other] : 0;
        }

        int way(int one, int other) {
            int way = isTown(one) && isTown(other) ? ways[one * TOWNS + other] : FAR;
            return way < FAR ? way : NONE;
        }

        int lay(int one, int other, int cost) {
            int before = cost(one, other);
            if (isTown(one) && isTown(other)) {
                costs[one * TOWNS + other] = cost;
                costs[other * TOWNS + one] = cost;
                measure();
            }
            return before;
        }

        int number() {
            int number = 0;
            for (int one = 0; one < TOWNS; one++) {
                for (int other = 0; other < one; other++) {
                    number += costs[one * TOWNS + other] > 0 ? 1 : 0;
                }
            }
            return number;
        }

        /** The goal itself has no next town by a road, so it is told ahead of the roads. */
        int nextTown(int from, int goal) {
            int whole = way(from, goal);
            if (whole == NONE || from == goal) {
                return whole == NONE ? NONE : goal;
            }
            for (int town = 0; town < TOWNS; town++) {
                int rest = way(town, goal);
                if (cost(from, town) > 0 && rest != NONE && cost(from, town) + rest == whole) {
                    return town;
                }
            }
            return NONE;
        }

        private void measure() {
            allowRoadsAlone();
            for (int over = 0; over < TOWNS; over++) {
                for (int one = 0; one < TOWNS; one++) {
                    for (int other = 0; other < TOWNS; other++) {
                        int around = ways[one * TOWNS + over] + ways[over * TOWNS + other];
                        ways[one * TOWNS + other] = Math.min(around, ways[one * TOWNS + other]);
                    }
                }
            }
        }

        private void allowRoadsAlone() {
            for (int one = 0; one < TOWNS; one++) {
                for (int other = 0; other < TOWNS; other++) {
                    int cost = costs[one * TOWNS + other];
                    ways[one * TOWNS + other] = one == other ? 0 : cost > 0 ? cost : FAR;
                }
            }
        }
    }

    /** Distances from one town, told by the nearest town that is not settled yet. */
    private static final class Nearest {
        private final int[] ways = new int[TOWNS];
        private final boolean[] settled = new boolean[TOWNS];

        int way(Roads roads, int from, int to) {
            begin(from);
            for (int round = 0; round < TOWNS; round++) {
                fix(roads, nearestUnsettled());
            }
            int way = isTown(to) ? ways[to] : FAR;
            return way < FAR ? way : NONE;
        }

        private void begin(int from) {
            for (int town = 0; town < TOWNS; town++) {
                ways[town] = town == from ? 0 : FAR;
                settled[town] = false;
            }
        }

        private int nearestUnsettled() {
            int found = NONE;
            int least = FAR;
            for (int town = 0; town < TOWNS; town++) {
                if (!settled[town] && ways[town] < least) {
                    found = town;
                    least = ways[town];
                }
            }
            return found;
        }

        private void fix(Roads roads, int nearest) {
            if (!isTown(nearest)) {
                return;
            }
            settled[nearest] = true;
            for (int town = 0; town < TOWNS; town++) {
                int cost = roads.cost(nearest, town);
                if (cost > 0) {
                    ways[town] = Math.min(ways[town], ways[nearest] + cost);
                }
            }
        }
    }

    /** The exits, by their numbers. */
    private static final class Exits {
        private final int[] towns = new int[EXITS];
        private final int[] neighbours = new int[EXITS];
        private final int[] open = new int[EXITS];
        private final int[] loaves = new int[EXITS];
        private final int[] costs = new int[EXITS];
        private int size;

        void copyFrom(Exits from) {
            copyRow(from.towns, towns);
            copyRow(from.neighbours, neighbours);
            copyRow(from.open, open);
            copyRow(from.loaves, loaves);
            copyRow(from.costs, costs);
            size = from.size;
        }

        int size() {
            return size;
        }

        boolean isFull() {
            return size >= EXITS;
        }

        boolean has(int exit) {
            return exit >= 0 && exit < size && exit < EXITS;
        }

        int town(int exit) {
            return has(exit) ? towns[exit] : NONE;
        }

        int neighbour(int exit) {
            return has(exit) ? neighbours[exit] : NONE;
        }

        boolean isOpen(int exit) {
            return has(exit) && open[exit] == 1;
        }

        int loaves(int exit) {
            return has(exit) ? loaves[exit] : 0;
        }

        int costs(int exit) {
            return has(exit) ? costs[exit] : 0;
        }

        int openOnes() {
            int number = 0;
            for (int exit = 0; exit < size; exit++) {
                number += isOpen(exit) ? 1 : 0;
            }
            return number;
        }

        int add(int town, int neighbour) {
            int exit = size;
            if (exit < 0 || exit >= EXITS) {
                return NONE;
            }
            towns[exit] = town;
            neighbours[exit] = neighbour;
            open[exit] = 1;
            size = exit + 1;
            return exit;
        }

        void flip(int exit) {
            if (has(exit)) {
                open[exit] = 1 - open[exit];
            }
        }

        void takeLoaf(int exit, int cost) {
            if (has(exit)) {
                loaves[exit]++;
                costs[exit] += cost;
            }
        }
    }

    /** The neighbours with their offers and bounds, and what came to them. */
    private static final class Neighbours {
        private final int[] lengths = new int[NEIGHBOURS * HOUSES];
        private final int[] bounds = new int[NEIGHBOURS];
        private final int[] came = new int[NEIGHBOURS];
        private final int[] complaintsSince = new int[NEIGHBOURS];
        private final int[] complaintsSoFar = new int[NEIGHBOURS];

        Neighbours() {
            for (int neighbour = 0; neighbour < NEIGHBOURS; neighbour++) {
                bounds[neighbour] = BOUND_AT_FIRST;
            }
        }

        void copyFrom(Neighbours from) {
            copyRow(from.lengths, lengths);
            copyRow(from.bounds, bounds);
            copyRow(from.came, came);
            copyRow(from.complaintsSince, complaintsSince);
            copyRow(from.complaintsSoFar, complaintsSoFar);
        }

        int length(int neighbour, int house) {
            return isNeighbour(neighbour) && isHouse(house) ? lengths[neighbour * HOUSES + house] : 0;
        }

        int boundOf(int neighbour) {
            return isNeighbour(neighbour) ? bounds[neighbour] : 0;
        }

        int came(int neighbour) {
            return isNeighbour(neighbour) ? came[neighbour] : 0;
        }

        int complaintsSince(int neighbour) {
            return isNeighbour(neighbour) ? complaintsSince[neighbour] : 0;
        }

        int complaintsSoFar(int neighbour) {
            return isNeighbour(neighbour) ? complaintsSoFar[neighbour] : 0;
        }

        int ways() {
            int number = 0;
            for (int way = 0; way < lengths.length; way++) {
                number += lengths[way] > 0 ? 1 : 0;
            }
            return number;
        }

        int allComplaints() {
            int number = 0;
            for (int neighbour = 0; neighbour < NEIGHBOURS; neighbour++) {
                number += complaintsSoFar[neighbour];
            }
            return number;
        }

        int changeLength(int neighbour, int house, int length) {
            int before = length(neighbour, house);
            if (isNeighbour(neighbour) && isHouse(house)) {
                lengths[neighbour * HOUSES + house] = length;
            }
            return before;
        }

        int changeBound(int neighbour, int loaves) {
            int before = boundOf(neighbour);
            if (isNeighbour(neighbour)) {
                bounds[neighbour] = loaves;
            }
            return before;
        }

        int beginAnew() {
            int complaints = 0;
            for (int neighbour = 0; neighbour < NEIGHBOURS; neighbour++) {
                complaints += complaintsSince[neighbour];
                complaintsSince[neighbour] = 0;
                came[neighbour] = 0;
            }
            return complaints;
        }

        /** A complaint is told by the bound of this moment, so it stays when the bound changes. */
        void takeLoaf(int neighbour) {
            if (!isNeighbour(neighbour)) {
                return;
            }
            came[neighbour]++;
            if (came[neighbour] > bounds[neighbour]) {
                complaintsSince[neighbour]++;
                complaintsSoFar[neighbour]++;
            }
        }
    }

    /** All that a snapshot holds. */
    private static final class Land {
        private final Roads roads = new Roads();
        private final Exits exits = new Exits();
        private final Neighbours neighbours = new Neighbours();
        private final int[] settings = new int[SETTINGS];
        private final int[] loavesOut = new int[TOWNS * HOUSES];
        private int sent;
        private int cold;
        private int costs;

        void copyFrom(Land from) {
            roads.copyFrom(from.roads);
            exits.copyFrom(from.exits);
            neighbours.copyFrom(from.neighbours);
            copyRow(from.settings, settings);
            copyRow(from.loavesOut, loavesOut);
            sent = from.sent;
            cold = from.cold;
            costs = from.costs;
        }

        int setting(int setting) {
            return setting >= 0 && setting < SETTINGS ? settings[setting] : 0;
        }

        int changeSetting(int setting, int value) {
            int before = setting(setting);
            if (setting >= 0 && setting < SETTINGS) {
                settings[setting] = value;
            }
            return before;
        }

        int loavesOut(int town, int house) {
            return isTown(town) && isHouse(house) ? loavesOut[town * HOUSES + house] : 0;
        }

        void takeLoaf(int town, int house, int exit, int cost) {
            sent++;
            if (exit == NONE) {
                cold++;
                return;
            }
            costs += cost;
            exits.takeLoaf(exit, cost);
            neighbours.takeLoaf(exits.neighbour(exit));
            if (isTown(town) && isHouse(house)) {
                loavesOut[town * HOUSES + house]++;
            }
        }
    }

    /** What a town chooses for a house; the answers of the latest look stay until the next one. */
    private static final class Chooser {
        private final int[] firsts = new int[EXITS];
        private final int[] seconds = new int[EXITS];
        private int takeable;
        private int best;
        private int exit;
        private int cost;
        private int leastFirst;
        private int leastSecond;

        void look(Land land, int town, int house) {
            boolean nearestFirst = land.setting(NEAREST_FIRST) == 1;
            begin();
            for (int number = 0; number < EXITS; number++) {
                int length = land.neighbours.length(land.exits.neighbour(number), house);
                int distance = land.roads.way(town, land.exits.town(number));
                boolean could = land.exits.isOpen(number) && length > 0 && distance != NONE;
                firsts[number] = !could ? FAR : nearestFirst ? distance : length;
                seconds[number] = !could ? FAR : nearestFirst ? length : distance;
                if (could) {
                    weigh(firsts[number], seconds[number]);
                }
            }
            int loavesOut = land.setting(BY_TURNS) == 1 ? land.loavesOut(town, house) : 0;
            exit = best > 0 ? bestOfRank(loavesOut % best) : NONE;
            cost = land.roads.way(town, land.exits.town(exit));
        }

        /** To be asked behind a look at the same town and house. */
        int reasonAgainst(Land land, int town, int house, int number) {
            if (number == exit) {
                return 0;
            }
            if (!land.exits.isOpen(number)) {
                return 1;
            }
            if (land.neighbours.length(land.exits.neighbour(number), house) == 0) {
                return 2;
            }
            if (land.roads.way(town, land.exits.town(number)) == NONE) {
                return 3;
            }
            if (number < 0 || number >= EXITS || firsts[number] != leastFirst) {
                return 4;
            }
            return seconds[number] == leastSecond ? 6 : 5;
        }

        private void begin() {
            takeable = 0;
            best = 0;
            leastFirst = FAR;
            leastSecond = FAR;
        }

        private void weigh(int first, int second) {
            takeable++;
            if (first < leastFirst || first == leastFirst && second < leastSecond) {
                leastFirst = first;
                leastSecond = second;
                best = 0;
            }
            best += isBest(first, second) ? 1 : 0;
        }

        private int bestOfRank(int rank) {
            int left = rank;
            for (int number = 0; number < EXITS; number++) {
                if (isBest(firsts[number], seconds[number])) {
                    if (left == 0) {
                        return number;
                    }
                    left--;
                }
            }
            return NONE;
        }

        private boolean isBest(int first, int second) {
            return first == leastFirst && second == leastSecond;
        }
    }

    /** The buffer, and what it tells as a day. */
    private static final class Text {
        private static final int AT_ORDER = 0;
        private static final int AT_TOWN = 1;
        private static final int AT_ARROW = 2;
        private static final int AT_HOUSE = 3;
        private static final int BEHIND_HOUSE = 4;
        private static final int AT_LOAVES = 5;
        private static final int AT_ONE = 6;
        private static final int AT_OTHER = 7;
        private static final int AT_EQUALS = 8;
        private static final int AT_COST = 9;
        private static final int BEHIND_FIRST_DIGIT = 10;
        private static final int AT_EXIT = 11;
        private static final int BEHIND_ORDER = 12;
        private static final int FAULT = 13;

        private final int[] codes = new int[CHARACTERS];
        private int length;

        int length() {
            return length;
        }

        boolean isFull() {
            return length >= CHARACTERS;
        }

        int code(int at) {
            return at >= 0 && at < length && at < CHARACTERS ? codes[at] : 0;
        }

        int digit(int at) {
            return code(at) - '0';
        }

        int add(int code) {
            if (length >= 0 && length < CHARACTERS) {
                codes[length] = code;
                length++;
            }
            return length;
        }

        int wipe() {
            int before = length;
            length = 0;
            return before;
        }

        int firstFault() {
            int place = AT_ORDER;
            for (int at = 0; at < length; at++) {
                place = placeAfter(place, at);
                if (place == FAULT) {
                    return at;
                }
            }
            return length;
        }

        boolean isDay() {
            int place = AT_ORDER;
            for (int at = 0; at < length; at++) {
                place = placeAfter(place, at);
            }
            return place == BEHIND_HOUSE || place == BEHIND_FIRST_DIGIT || place == BEHIND_ORDER;
        }

        boolean beginsOrder(int at) {
            return at == 0 || code(at - 1) == ';';
        }

        /** How many loaves the order that begins here sends, if it sends any. */
        int loaves(int at) {
            return code(at + 4) == '*' ? digit(at + 5) : 1;
        }

        /** The cost that the order that begins here tells, if it tells of a road. */
        int cost(int at) {
            return isIn(code(at + 5), '0', '9') ? 10 * digit(at + 4) + digit(at + 5) : digit(at + 4);
        }

        private int placeAfter(int place, int at) {
            int code = code(at);
            switch (place) {
                case AT_ORDER:
                    return afterLetter(code);
                case AT_TOWN:
                    return isTownDigit(code) ? AT_ARROW : FAULT;
                case AT_ARROW:
                    return code == '>' ? AT_HOUSE : FAULT;
                case AT_HOUSE:
                    return isIn(code, '0', '3') ? BEHIND_HOUSE : FAULT;
                case BEHIND_HOUSE:
                    return code == '*' ? AT_LOAVES : afterOrder(code);
                case AT_LOAVES:
                    return isIn(code, '2', '9') ? BEHIND_ORDER : FAULT;
                case AT_ONE:
                    return isTownDigit(code) ? AT_OTHER : FAULT;
                case AT_OTHER:
                    return isTownDigit(code) && code != code(at - 1) ? AT_EQUALS : FAULT;
                case AT_EQUALS:
                    return code == '=' ? AT_COST : FAULT;
                case AT_COST:
                    return afterFirstDigit(code);
                case BEHIND_FIRST_DIGIT:
                    return isIn(code, '0', '9') ? BEHIND_ORDER : afterOrder(code);
                case AT_EXIT:
                    return isIn(code, '0', '7') ? BEHIND_ORDER : FAULT;
                case BEHIND_ORDER:
                    return afterOrder(code);
                default:
                    return FAULT;
            }
        }

        private static int afterLetter(int code) {
            switch (code) {
                case 's':
                    return AT_TOWN;
                case 'r':
                    return AT_ONE;
                case 'x':
                    return AT_EXIT;
                default:
                    return FAULT;
            }
        }

        /** A cost that begins with 0 is 0, because leading zeros are ruled out. */
        private static int afterFirstDigit(int code) {
            if (code == '0') {
                return BEHIND_ORDER;
            }
            return isIn(code, '1', '9') ? BEHIND_FIRST_DIGIT : FAULT;
        }

        private static int afterOrder(int code) {
            return code == ';' ? AT_ORDER : FAULT;
        }

        private static boolean isTownDigit(int code) {
            return isIn(code, '0', '7');
        }

        private static boolean isIn(int code, int first, int last) {
            return code >= first && code <= last;
        }
    }

    /** Places for copies of the land, each of them made once and written over. */
    private static final class Shelf {
        private final Land[] lands;
        private final boolean[] filled;

        Shelf(int size) {
            lands = new Land[Math.max(size, 0)];
            filled = new boolean[Math.max(size, 0)];
            for (int place = 0; place < lands.length; place++) {
                lands[place] = new Land();
            }
        }

        boolean holds(int place) {
            return place >= 0 && place < filled.length && filled[place];
        }

        void put(int place, Land land) {
            Land copy = at(place);
            if (copy != null && place >= 0 && place < filled.length) {
                copy.copyFrom(land);
                filled[place] = true;
            }
        }

        void copyTo(int place, Land land) {
            Land copy = at(place);
            if (copy != null) {
                land.copyFrom(copy);
            }
        }

        private Land at(int place) {
            return place >= 0 && place < lands.length ? lands[place] : null;
        }
    }

    /** The saved states in a ring, so that the oldest one is dropped where it stands. */
    private static final class History {
        private final Shelf states = new Shelf(SAVED_STATES);
        private int oldest;
        private int size;

        int size() {
            return size;
        }

        void save(Land land) {
            states.put((oldest + size) % SAVED_STATES, land);
            if (size < SAVED_STATES) {
                size++;
            } else {
                oldest = (oldest + 1) % SAVED_STATES;
            }
        }

        void restore(Land land) {
            if (size > 0) {
                size--;
                states.copyTo((oldest + size) % SAVED_STATES, land);
            }
        }
    }
}
