/** The sentences of promises 10 to 13, one after the other: append, clearBuffer, firstError, run. */
final class TextEdges extends Edges {
    private static final String SIXTY = "s0>0;s1>1;s2>2;s3>3;s4>0;s5>1;s6>2;s7>3;s0>1*2;s1>2*3;s2>3*4";

    private TextEdges() {
    }

    static void all() {
        test(TextEdges::append);
        test(TextEdges::appendThrows);
        test(TextEdges::clearBuffer);
        test(TextEdges::firstError);
        test(TextEdges::run);
        test(TextEdges::runStops);
        test(TextEdges::runClears);
        test(TextEdges::runIsUndoable);
        test(TextEdges::runReturns);
        test(TextEdges::runThrows);
    }

    private static void append() {
        promise(10, "Appends a character to the buffer.");
        LoafExits x = written("x");
        Check.is("x has no fault", x.firstError(), 1);
        x.append('9');
        Check.is("9 behind it has", x.firstError(), 1);
        x.append('0');
        Check.is("0 behind that does not mend it", x.firstError(), 1);
        LoafExits y = new LoafExits();
        notUndoable(y, () -> y.append('x'));

        promise(10, "`code`: the character code, 33 to 126");
        onlyValues(33, 126, code -> new LoafExits().append(code));

        promise(10, "Returns the new length of the buffer.");
        LoafExits z = new LoafExits();
        for (int length = 1; length <= 60; length++) {
            Check.is("the length", z.append('!' + length), length);
        }
        z.clearBuffer();
        Check.is("of a cleared one", z.append('~'), 1);
    }

    private static void appendThrows() {
        LoafExits x = usedLand();
        promise(10, "Throws `IllegalArgumentException` if code is not 33 to 126");
        refusedWithoutChange(x, IllegalArgumentException.class, () -> x.append(32));
        refusedWithoutChange(x, IllegalArgumentException.class, () -> x.append(127));
        refusedWithoutChange(x, IllegalArgumentException.class, () -> x.append(0));

        promise(10, "Throws `IllegalStateException` if the buffer has 60 characters");
        LoafExits y = written(SIXTY.substring(0, 59));
        Check.is("the sixtieth", y.append('x'), 60);
        refusedWithoutChange(y, IllegalStateException.class, () -> y.append('x'));
        refusedWithoutChange(y, IllegalStateException.class, () -> y.append(126));
        y.clearBuffer();
        Check.is("room again", y.append('x'), 1);
    }

    private static void clearBuffer() {
        promise(11, "Clears the buffer.");
        LoafExits x = written("q");
        x.clearBuffer();
        Check.is("no fault is left", x.firstError(), 0);
        Check.noArgument("no day is left", () -> x.run());
        write(x, "x0");
        Check.is("what is written anew stands at its start", x.firstError(), 2);
        LoafExits y = written("x0");
        notUndoable(y, () -> y.clearBuffer());
        Check.is("undo does not bring it back", y.clearBuffer(), 0);

        promise(11, "Returns the length that it had.");
        Check.is("empty", new LoafExits().clearBuffer(), 0);
        Check.is("one", written("~").clearBuffer(), 1);
        Check.is("sixty", written("x".repeat(60)).clearBuffer(), 60);
        Check.is("cleared already", x.clearBuffer() + x.clearBuffer(), 2);
    }

    private static void firstError() {
        promise(12, "Finds the first syntax error of the buffer.");
        LoafExits x = written("x0;y;z");
        Check.is("the first of several", x.firstError(), 3);
        Check.is("asked again", x.firstError(), 3);
        changesNothing(x, () -> x.firstError());
        LoafExits y = usedLand();
        changesNothing(y, () -> y.firstError());

        promise(12, "Returns the index of the first character that is a syntax error");
        Check.is("the first one", written("0").firstError(), 0);
        Check.is("the second one", written("xx").firstError(), 1);
        Check.is("one behind a whole day", written("x0x").firstError(), 2);
        Check.is("the last one of sixty", written("s0>0;".repeat(11) + "r01=;").firstError(), 59);
        Check.is("an exit that is not there is none", written("x7;?").firstError(), 3);

        promise(12, "; the length of the buffer if there is none.");
        Check.is("empty", new LoafExits().firstError(), 0);
        Check.is("begun", written("r01=").firstError(), 4);
        Check.is("whole", written("r01=99").firstError(), 6);
        Check.is("sixty, begun", written("s0>0;".repeat(12)).firstError(), 60);
        Check.is("sixty, whole", written("s0>0;".repeat(11) + "r01=1").firstError(), 60);
    }

    private static void run() {
        promise(13, "Does the orders in the buffer as send(), road() and turn() do, one after the other");
        LoafExits x = usedLand();
        LoafExits y = usedLand();
        x.clearBuffer();
        y.clearBuffer();
        write(x, "s5>0;r07=0;x0;s3>0*3;r17=8;s2>0*2;x1;s4>3;x1");
        x.run();
        y.send(5, 0);
        y.road(0, 7, 0);
        y.turn(0);
        send(y, 3, 0, 3);
        y.road(1, 7, 8);
        send(y, 2, 0, 2);
        y.turn(1);
        y.send(4, 3);
        y.turn(1);
        Check.is("the digest is as that of the calls", x.digest(), y.digest());
        LoafExits z = oneExit(7);
        write(z, "s0>0;r07=1;s0>0;x0;s0>0");
        z.run();
        Check.is("the costs are those of then", z.count(6), 71);
        Check.is("the last one is cold", z.count(5), 1);
    }

    private static void runStops() {
        promise(13, ", up to the first one whose method would throw an exception");
        LoafExits x = oneExit(0);
        write(x, "x0;x1;x0;s0>0;r01=1");
        x.run();
        Check.is("what is ahead of it is done", x.exitOf(0, 2), 0);
        Check.is("no loaf is sent behind it", x.count(4), 0);
        Check.is("no road is changed behind it", x.roadOf(0, 1), 10);
        for (int exit = 0; exit < 8; exit++) {
            LoafExits y = exitsAt(0, 1, 2, 3);
            write(y, "x" + exit + ";r01=1");
            y.run();
            Check.is("exit " + exit + " of four", y.roadOf(0, 1), exit < 4 ? 1 : 10);
        }
        LoafExits cold = written("s0>0;s7>3*9;r01=1");
        cold.run();
        Check.is("a cold loaf is no exception", cold.roadOf(0, 1), 1);

        promise(13, "(of several loaves of one order those ahead of it are sent)");
        LoafExits z = oneExit(0);
        send(z, 0, 0, 9996);
        write(z, "s0>0*4;x0");
        Check.is("not wholly done", z.run(), 0);
        Check.is("three of four are sent", z.count(4), 9999);
        Check.is("three of four left", z.exitOf(0, 3), 9999);
        Check.is("the exit is open still", z.exitOf(0, 2), 1);
    }

    private static void runClears() {
        promise(13, ", and clears the buffer.");
        LoafExits x = written("r01=5");
        x.run();
        Check.is("the length", x.clearBuffer(), 0);
        write(x, "x0;x0;s0>0");
        x.run();
        Check.is("also if it stops", x.clearBuffer(), 0);
        write(x, SIXTY);
        x.run();
        Check.is("of sixty", x.clearBuffer(), 0);
        Check.noArgument("an order is done once", () -> x.run());
    }

    private static void runIsUndoable() {
        promise(13, "Undoable, as one call");
        LoafExits x = oneExit(0);
        write(x, "r07=1;x0;s0>0*2;s1>0;r01=0");
        x.run();
        Check.is("one saved state", x.count(9), 3);
        Check.is("undo", x.undo(), 2);
        Check.is("roads", x.roadOf(0, 7) + x.roadOf(0, 1), 10);
        Check.is("the exit", x.exitOf(0, 2), 1);
        Check.is("loaves", x.count(4), 0);
        Check.is("the buffer is cleared all the same", x.clearBuffer(), 0);

        promise(13, ", also if none is done.");
        LoafExits y = written("x0;r01=5");
        Check.is("none", y.run(), 0);
        Check.is("saved all the same", y.count(9), 1);
        Check.is("undo", y.undo(), 0);
    }

    private static void runReturns() {
        promise(13, "Returns how many orders are wholly done.");
        Check.is("one", written("s0>0").run(), 1);
        Check.is("several loaves are one order", written("s0>0*9").run(), 1);
        Check.is("eleven and one", written("s0>0;".repeat(11) + "r01=1").run(), 12);
        Check.is("twenty", write(oneExit(0), "x0" + ";x0".repeat(19)).run(), 20);
        Check.is("two ahead of the one that would throw", written("r01=0;r01=1;x0;r01=0").run(), 2);
        Check.is("none", written("x7").run(), 0);
    }

    private static void runThrows() {
        promise(13, "Throws `IllegalArgumentException` if the buffer does not tell a day as a text");
        String[] texts = {"", ";", "x", "x0;", "x0;;x0", ";x0", "s0>0*", "s0>0*1", "r01=", "r00=5", "r01=100", "X0", "x8", "s8>0", "s0>4"};
        for (String text : texts) {
            LoafExits x = oneExit(0);
            write(x, text);
            refusedWithoutChange(x, IllegalArgumentException.class, () -> x.run());
            Check.is("the buffer is as before with " + text, x.clearBuffer(), text.length());
        }
        LoafExits y = usedLand();
        refusedWithoutChange(y, IllegalArgumentException.class, () -> y.run());
        y.append('0');
        Check.is("it goes on where it was", y.run(), 1);
    }
}
