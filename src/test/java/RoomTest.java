import java.lang.management.ManagementFactory;

/** How much a run makes: all its calls live in one room, so a call that answers makes nothing. */
public final class RoomTest {
    private static final long MOST_FOR_AN_OBJECT = 40_000;
    private static final long MOST_FOR_CALLS = 1_000;

    public static void main(String[] args) {
        com.sun.management.ThreadMXBean room = (com.sun.management.ThreadMXBean) ManagementFactory.getThreadMXBean();
        useAll(new LoafExits());
        made(room);
        long before = made(room);
        LoafExits x = new LoafExits();
        long begun = made(room);
        useAll(x);
        long ended = made(room);
        Check.isTrue("an object takes " + (begun - before) + " bytes", begun - before < MOST_FOR_AN_OBJECT);
        Check.isTrue("its calls take " + (ended - begun) + " bytes", ended - begun < MOST_FOR_CALLS);
        Check.end("RoomTest");
    }

    private static long made(com.sun.management.ThreadMXBean room) {
        return room.getThreadAllocatedBytes(Thread.currentThread().getId());
    }

    private static void useAll(LoafExits x) {
        String day = "s0>0*9;s0>0*9;s0>0*9;r07=9;x0;x1";
        for (int round = 0; round < 6; round++) {
            if (round < 4) {
                x.exit(round, round);
            }
            x.offer(round % 4, 0, 1 + round);
            for (int k = 0; k < day.length(); k++) {
                x.append(day.charAt(k));
            }
            x.firstError();
            x.run();
            x.keep(round % 2);
            x.settle();
            x.bound(1, round);
            x.set(round % 2, 1);
            x.send(1, 0);
            x.goBack(round % 2);
            x.undo();
            for (int k = 0; k < 8; k++) {
                x.digest();
            }
        }
    }
}
