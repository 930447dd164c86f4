/** Promises 10 to 13: append, clearBuffer, firstError, run. */
public final class TextTest {
    public static void main(String[] args) {
        append();
        clearBuffer();
        wholeDays();
        begunDays();
        faultyDays();
        runSends();
        runRoadsAndTurns();
        runStops();
        runRefuses();
        runIsUndoable();
        Check.end("TextTest");
    }

    private static void write(LoafExits x, String text) {
        for (int k = 0; k < text.length(); k++) {
            x.append(text.charAt(k));
        }
    }

    private static void append() {
        LoafExits x = new LoafExits();
        Check.noArgument("10: 32", () -> x.append(32));
        Check.noArgument("10: 127", () -> x.append(127));
        Check.noArgument("10: -1", () -> x.append(-1));
        Check.is("10: 33", x.append(33), 1);
        Check.is("10: 126", x.append(126), 2);
        for (int length = 3; length <= 60; length++) {
            Check.is("10: length", x.append('a'), length);
        }
        Check.noState("10: full", () -> x.append('a'));
        Check.noArgument("10: the code ahead of the full buffer", () -> x.append(32));
        Check.is("10: not undoable", x.count(9), 0);
        Check.is("10: 60 of them", x.clearBuffer(), 60);
    }

    private static void clearBuffer() {
        LoafExits x = new LoafExits();
        Check.is("11: empty", x.clearBuffer(), 0);
        write(x, "s0");
        Check.is("11: two", x.clearBuffer(), 2);
        Check.is("11: cleared", x.clearBuffer(), 0);
        Check.is("11: from the start", x.append('x'), 1);
        Check.is("11: what was there is gone", x.firstError(), 1);
        Check.is("11: not undoable", x.count(9), 0);
    }

    private static void wholeDays() {
        String[] days = {
            "s0>0", "s7>3", "s4>2*2", "s4>2*9", "r01=0", "r70=1", "r67=9", "r12=10", "r21=99", "x0", "x7",
            "s0>0;s0>0", "x1;r01=5;s1>1", "r01=0;x0", "s1>2*3;x0", "r01=7;r10=77;s7>0",
            "s0>0*9;s0>0*9;s0>0*9;s0>0*9;s0>0*9;s0>0*9;s0>0*9;s0>0*9;s0>0"};
        for (String day : days) {
            LoafExits x = new LoafExits();
            write(x, day);
            Check.is("12: " + day, x.firstError(), day.length());
            Check.is("12: twice " + day, x.firstError(), day.length());
            x.run();
            Check.is("13: cleared " + day, x.clearBuffer(), 0);
            Check.is("13: saved once " + day, x.count(9), 1);
        }
    }

    private static void begunDays() {
        String[] days = {
            "", "s", "s0", "s0>", "s0>0*", "r", "r0", "r01", "r01=", "x", "s0>0;", "x0;r",
            "r01=0;", "s0>0*9;s0>0*9;s0>0*9;s0>0*9;s0>0*9;s0>0*9;s0>0*9;s0>0*9;s0>"};
        for (String day : days) {
            LoafExits x = new LoafExits();
            write(x, day);
            Check.is("12: " + day, x.firstError(), day.length());
            Check.noArgument("13: " + day, () -> x.run());
            Check.is("13: not cleared " + day, x.clearBuffer(), day.length());
            Check.is("13: not saved " + day, x.count(9), 0);
        }
    }

    private static void faultyDays() {
        String[] ahead = {
            "", "s", "s", "s0", "s0>", "s0>0", "s0>0*", "s0>0*", "s0>0*2", "r", "r0", "r0", "r7", "r01", "r01=",
            "r01=", "r01=0", "r01=0", "r01=1", "r01=1", "r01=10", "x", "x", "x0", "x0;", "s0>0;", "s0>3", "s0>3*9", "r01=99"};
        String[] fault = {
            ";", "8", "/", "0", "4", "1", "1", ":", "0", "8", "0", "8", "7", "0", ":",
            "/", "0", "5", "*", ":", "0", "8", "x", "0", ";", "0", ">", "*", "9"};
        for (int k = 0; k < ahead.length; k++) {
            for (String behind : new String[] {"", ";", "s0>0"}) {
                String day = ahead[k] + fault[k] + behind;
                LoafExits x = new LoafExits();
                write(x, day);
                Check.is("12: " + day, x.firstError(), ahead[k].length());
                Check.noArgument("13: " + day, () -> x.run());
            }
        }
        LoafExits x = new LoafExits();
        write(x, "s0>0;S0>0;s9");
        Check.is("12: the first of several", x.firstError(), 5);
        Check.is("12: nothing is changed", x.clearBuffer(), 12);
    }

    private static LoafExits twoExits() {
        LoafExits x = new LoafExits();
        x.exit(0, 0);
        x.exit(7, 1);
        x.offer(0, 0, 1);
        x.offer(1, 3, 2);
        return x;
    }

    private static void runSends() {
        LoafExits x = twoExits();
        write(x, "s2>0*3;s6>3;s1>1*9");
        Check.is("13: three orders", x.run(), 3);
        Check.is("13: thirteen loaves", x.count(4), 13);
        Check.is("13: nine are cold", x.count(5), 9);
        Check.is("13: by exit 0", x.exitOf(0, 3), 3);
        Check.is("13: costs of exit 0", x.exitOf(0, 4), 60);
        Check.is("13: by exit 1", x.exitOf(1, 3), 1);
        Check.is("13: costs", x.count(6), 70);
        x.exit(0, 0);
        x.set(1, 1);
        write(x, "s2>0*2");
        x.run();
        Check.is("13: turns go on within an order", x.exitOf(0, 3), 4);
        Check.is("13: the other one's turn", x.exitOf(2, 3), 1);
        x.bound(0, 4);
        write(x, "s2>0*2;s2>0");
        x.run();
        Check.is("13: complaints", x.count(7), 3);
    }

    private static void runRoadsAndTurns() {
        LoafExits x = twoExits();
        write(x, "r07=5;r12=0;r34=98;x1;x0;x1");
        Check.is("13: six orders", x.run(), 6);
        Check.is("13: a road", x.roadOf(7, 0), 5);
        Check.is("13: none", x.roadOf(1, 2), 0);
        Check.is("13: two digits", x.roadOf(4, 3), 98);
        Check.is("13: distances by them", x.distance(1, 7, 0), 15);
        Check.is("13: closed", x.exitOf(0, 2), 0);
        Check.is("13: closed and opened", x.exitOf(1, 2), 1);
        write(x, "r56=90;r56=10");
        x.run();
        Check.is("13: a last digit 0", x.roadOf(5, 6), 10);
        write(x, "r07=0;s2>3;x0;s0>0");
        Check.is("13: one after the other", x.run(), 4);
        Check.is("13: by exit 1, over towns 3 to 7", x.exitOf(1, 4), 138);
        Check.is("13: opened ahead of the loaf", x.exitOf(0, 3), 1);
    }

    private static void runStops() {
        LoafExits x = twoExits();
        write(x, "s2>0;x1;x2;x0;s2>0");
        Check.is("13: two ahead of the one that would throw", x.run(), 2);
        Check.is("13: done", x.exitOf(1, 2), 0);
        Check.is("13: not done", x.exitOf(0, 2), 1);
        Check.is("13: one loaf", x.count(4), 1);
        Check.is("13: cleared", x.clearBuffer(), 0);
        write(x, "x7;s2>0");
        int saved = x.count(9);
        Check.is("13: none", x.run(), 0);
        Check.is("13: saved also if none is done", x.count(9), saved + 1);
        Check.is("13: still one loaf", x.count(4), 1);
    }

    private static void runRefuses() {
        LoafExits x = twoExits();
        write(x, "s2>0;s2>0;");
        int saved = x.count(9);
        Check.noArgument("13: a last ;", () -> x.run());
        Check.is("13: nothing is sent", x.count(4), 0);
        Check.is("13: nothing is saved", x.count(9), saved);
        write(x, "x1");
        Check.is("13: the buffer is as it was", x.run(), 3);
    }

    private static void runIsUndoable() {
        LoafExits x = new LoafExits();
        x.exit(0, 0);
        write(x, "r07=1;x0;s0>0*2");
        x.run();
        Check.is("13: one saved state", x.count(9), 2);
        write(x, "x0");
        Check.is("16: one call", x.undo(), 1);
        Check.is("13: the road is undone", x.roadOf(0, 7), 0);
        Check.is("13: the turn is undone", x.exitOf(0, 2), 1);
        Check.is("13: the loaves are undone", x.count(4), 0);
        Check.is("16: the buffer is not", x.clearBuffer(), 2);
    }
}
