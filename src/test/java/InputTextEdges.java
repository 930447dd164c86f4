/** The sentences of the terms of the input text, one after the other. */
final class InputTextEdges extends Edges {
    private static final String PRINTED = printed();

    private InputTextEdges() {
    }

    static void all() {
        test(InputTextEdges::length);
        test(InputTextEdges::severalOrders);
        test(InputTextEdges::sendOrders);
        test(InputTextEdges::roadOrders);
        test(InputTextEdges::exitOrders);
        test(InputTextEdges::leftToRight);
    }

    private static String printed() {
        StringBuilder signs = new StringBuilder();
        for (char sign = 33; sign <= 126; sign++) {
            signs.append(sign);
        }
        return signs.toString();
    }

    /** Behind this text these signs, and no others, are no syntax errors. */
    private static void goesOnWith(String text, String signs) {
        for (int k = 0; k < PRINTED.length(); k++) {
            String more = text + PRINTED.charAt(k);
            int due = signs.indexOf(PRINTED.charAt(k)) < 0 ? text.length() : more.length();
            Check.is("the first error of " + more, written(more).firstError(), due);
        }
    }

    private static void isDay(String text) {
        LoafExits x = exitsAt(0, 1, 2, 3, 4, 5, 6, 7);
        write(x, text);
        Check.is("the first error of " + text, x.firstError(), text.length());
        Check.takes("run of " + text, () -> x.run());
    }

    private static void isNoDay(String text) {
        Check.noArgument("run of " + text, () -> written(text).run());
    }

    private static void length() {
        terms("10", "The buffer has at most 60 characters.");
        LoafExits x = written("s0>0;".repeat(12));
        Check.noState("a 61st one", () -> x.append('s'));
        Check.is("60", x.clearBuffer(), 60);
    }

    private static void severalOrders() {
        terms("12, 13", "A day as a text is one or more orders with \";\" between them");
        isNoDay("");
        goesOnWith("", "srx");
        isDay("x0");
        isDay("x0;x0");
        isDay("x0;s0>0;r01=1;x1;s0>0*2;r67=99");
        isNoDay("x0;");
        isNoDay("x0;x0;");
        isNoDay(";x0");
        isNoDay("x0;;x0");
        goesOnWith("x0;", "srx");
        goesOnWith("x0;r01=5;", "srx");
        Check.is("nothing between two", written("x0;;x0").firstError(), 3);
        isDay("s0>0;".repeat(11) + "r01=0");
        isDay("x0;".repeat(19) + "x0");
    }

    private static void sendOrders() {
        terms("12, 13", ": \"s\", the digit of a town, 0 to 7");
        goesOnWith("s", "01234567");
        for (int town = 0; town < 8; town++) {
            LoafExits x = written("s" + town + ">0");
            x.run();
            Check.is("not sent yet by town " + town, x.choice(town, 0, 4), 0);
            LoafExits y = oneExit(town);
            write(y, "s" + town + ">0");
            y.run();
            Check.is("sent by town " + town, y.choice(town, 0, 4), 1);
        }

        terms("12, 13", ", \">\"");
        goesOnWith("s0", ">");
        goesOnWith("s7", ">");

        terms("12, 13", ", and the digit of a house, 0 to 3");
        goesOnWith("s0>", "0123");
        for (int house = 0; house < 4; house++) {
            LoafExits x = oneExit(0);
            x.offer(0, house, 9);
            write(x, "s5>" + house);
            x.run();
            Check.is("sent to house " + house, x.choice(5, house, 4), 1);
        }

        terms("12, 13", ", and perhaps \"*\" and a digit, 2 to 9 (so many loaves are sent)");
        goesOnWith("s0>3", "*;");
        goesOnWith("s0>3*", "23456789");
        goesOnWith("s0>3*2", ";");
        goesOnWith("s0>3*9", ";");
        isNoDay("s0>3*");
        for (int loaves = 2; loaves <= 9; loaves++) {
            LoafExits x = written("s0>3*" + loaves);
            Check.is("one order", x.run(), 1);
            Check.is("so many loaves", x.count(4), loaves);
        }
        LoafExits one = written("s0>3;s2>1");
        one.run();
        Check.is("one loaf each without it", one.count(4), 2);
    }

    private static void roadOrders() {
        terms("12, 13", "; \"r\", two digits of towns");
        goesOnWith("r", "01234567");
        for (int pair = 0; pair < 64; pair++) {
            int one = pair / 8;
            int other = pair % 8;
            if (one != other) {
                LoafExits x = written("r" + one + other + "=77");
                x.run();
                Check.is("road " + one + " " + other, x.roadOf(one, other), 77);
            }
        }

        terms("12, 13", ", unlike");
        for (int town = 0; town < 8; town++) {
            goesOnWith("r" + town, "01234567".replace("" + town, ""));
            isNoDay("r" + town + town + "=5");
        }

        terms("12, 13", ", \"=\"");
        goesOnWith("r01", "=");
        goesOnWith("r76", "=");

        terms("12, 13", ", and a cost, 0 to 99");
        goesOnWith("r01=", "0123456789");
        for (int cost = 0; cost <= 99; cost++) {
            LoafExits x = written("r12=" + cost);
            x.run();
            Check.is("the cost", x.roadOf(1, 2), cost);
            LoafExits y = written("r12=" + cost + ";r12=1");
            Check.is("two orders", y.run(), 2);
        }
        for (int cost = 10; cost <= 99; cost++) {
            goesOnWith("r01=" + cost, ";");
        }
        isNoDay("r01=100");
        isNoDay("r01=-1");
        isNoDay("r01=");

        terms("12, 13", ", without leading zeros");
        goesOnWith("r01=0", ";");
        for (int digit = 0; digit <= 9; digit++) {
            Check.is("0 ahead of " + digit, written("r01=0" + digit).firstError(), 5);
            isNoDay("r01=0" + digit);
        }
        for (int digit = 1; digit <= 9; digit++) {
            goesOnWith("r01=" + digit, "0123456789;");
        }

        terms("13", "(a road; 0 for none)");
        LoafExits z = written("r34=0");
        z.run();
        Check.is("roads", z.count(0), 6);
        Check.is("no distance", z.distance(3, 4, 0), NONE);
    }

    private static void exitOrders() {
        terms("12, 13", "; or \"x\" and the digit of an exit, 0 to 7");
        goesOnWith("x", "01234567");
        goesOnWith("x7", ";");
        for (int exit = 0; exit < 8; exit++) {
            LoafExits x = exitsAt(0, 1, 2, 3, 4, 5, 6, 7);
            write(x, "x" + exit);
            x.run();
            Check.is("exit " + exit, x.exitOf(exit, 2), 0);
            Check.is("no other one", x.count(2), 7);
        }

        terms("4, 13", "(it is closed, or opened if it is closed).");
        LoafExits y = oneExit(0);
        write(y, "x0");
        y.run();
        Check.is("closed", y.exitOf(0, 2), 0);
        write(y, "x0");
        y.run();
        Check.is("opened", y.exitOf(0, 2), 1);
        write(y, "x0;x0;x0");
        y.run();
        Check.is("closed at last", y.exitOf(0, 2), 0);
    }

    private static void leftToRight() {
        terms("12", "The buffer is read from left to right");
        Check.is("a fault behind a fault", written("s8>4").firstError(), 1);
        Check.is("a fault ahead of a whole order", written("xx0").firstError(), 1);
        Check.is("a fault between whole orders", written("x0;0;x0").firstError(), 3);

        terms("12", "; a character is a syntax error if no day as a text, of any length, begins with the characters before it and this character.");
        String day = "s0>0;r01=10;x7;s7>3*9;r70=0;s1>2;x0;r67=99;s5>1*2;x3;r24=59;";
        for (int length = 0; length <= 60; length++) {
            Check.is("begun with " + length, written(day.substring(0, length)).firstError(), length);
        }
        Check.is("sixty that no day of sixty begins with", written("x0;".repeat(20)).firstError(), 60);
        Check.is("nor these", written("s0>0;".repeat(11) + "x0;s0").firstError(), 60);
        Check.is("the sixtieth is one", written("x0;".repeat(19) + "x0x").firstError(), 59);
        LoafExits x = written("s0>0*");
        x.append('1');
        Check.is("it is one", x.firstError(), 5);
        x.append('2');
        Check.is("and what comes behind it does not mend it", x.firstError(), 5);
    }
}
