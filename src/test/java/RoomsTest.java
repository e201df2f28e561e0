/** Promises 19 to 24: false signs, what rooms see, orders. */
public final class RoomsTest {
    private static final int BAD = DarkLand.BAD, NONE = DarkLand.NONE, FULL = DarkLand.FULL, STATE = DarkLand.STATE;
    private static final long NO = DarkLand.NO;

    public static void main(String[] args) {
        falseSigns();
        wrongSigns();
        mending();
        whatIsSeen();
        howLongItIsKept();
        aYoungNode();
        orders();
        ordersAreTriedAgain();
        ordersInARow();
        when();
        whenFallsCome();
        Due.end();
    }

    /** A dam at node 0, started; a room at 0 that sees at once, and one at 1 that sees 2 late; a line between. */
    private static DarkLand land() {
        DarkLand x = new DarkLand();
        x.node(0);
        x.node(10);
        x.line(0, 1, 25, 0);
        x.plant(1, 0, 300, 20);
        x.load(0, 20, 1);
        x.room(0, 0);
        x.room(1, 2);
        x.deed(2, 0);
        return x;
    }

    private static void wrongSigns() {
        DarkLand x = land();
        Due.is("falseSign(2, -1, ..)", x.falseSign(2, -1, 4, 1000), NONE);
        Due.is("falseSign(-1, ..)", x.falseSign(-1, 0, 0, 0), NONE);
        Due.is("minute -1", x.falseSign(0, -1, 0, 0), BAD);
        Due.is("minute 601", x.falseSign(0, 601, 0, 0), BAD);
        Due.is("what -1", x.falseSign(0, 0, -1, 0), BAD);
        Due.is("what 4", x.falseSign(0, 0, 4, 0), BAD);
        Due.is("-1000", x.falseSign(0, 0, 0, -1000), BAD);
        Due.is("1000", x.falseSign(0, 0, 0, 1000), BAD);
        Due.is("none came", x.count(11), 0);
        for (int f = 0; f < 20; f++) {
            Due.is("sign " + f, x.falseSign(f % 2, f % 2 == 0 ? 600 : 0, f % 4, f % 2 == 0 ? -999 : 999), f);
        }
        x.mend(3);
        Due.is("BAD ahead of FULL", x.falseSign(0, 0, 0, 1000), BAD);
        Due.is("full, though one is mended", x.falseSign(0, 0, 0, 0), FULL);
        Due.is("count(11)", x.count(11), 20);
    }

    private static void falseSigns() {
        DarkLand x = land();
        x.run(3);
        Due.is("sign", x.falseSign(0, 1, 1, -7), 0);
        Due.is("told", x.sees(0, 1, 1, 0), -7);
        Due.is("was", x.sees(0, 1, 1, 1), 0);
        Due.is("another what", x.sees(0, 1, 0, 0), 1);
        Due.is("another minute", x.sees(0, 2, 1, 0), 0);
        x.room(0, 0);
        Due.is("another room at the node", x.sees(2, 1, 1, 0), 0);
        Due.is("a later sign", x.falseSign(0, 1, 1, 8), 1);
        Due.is("the one told last", x.sees(0, 1, 1, 0), 8);
        Due.is("of a minute to come", x.falseSign(0, 4, 3, 99), 2);
        Due.is("not yet", x.sees(0, 4, 3, 0), NO);
        x.run(2);
        Due.is("now", x.sees(0, 4, 3, 0), 99);
        Due.is("was", x.sees(0, 4, 3, 1), 5);
    }

    private static void mending() {
        DarkLand x = land();
        x.run(2);
        x.falseSign(0, 0, 3, 5);
        x.falseSign(0, 0, 3, 6);
        x.falseSign(0, 0, 3, 7);
        Due.is("mend(-1)", x.mend(-1), NONE);
        Due.is("mend(3)", x.mend(3), NONE);
        Due.is("mend(1)", x.mend(1), 1);
        Due.is("mend(1) again", x.mend(1), STATE);
        Due.is("the last still", x.sees(0, 0, 3, 0), 7);
        Due.is("mend(2)", x.mend(2), 1);
        Due.is("the first again", x.sees(0, 0, 3, 0), 5);
        Due.is("mend(0)", x.mend(0), 1);
        Due.is("what was", x.sees(0, 0, 3, 0), 1);
        Due.is("count(11)", x.count(11), 3);
    }

    private static void whatIsSeen() {
        DarkLand x = land();
        x.run(2);
        x.deed(0, 0);
        x.deed(4, 0);
        x.run(1);
        int[] due = {1, x.nodeTold(0, 2), x.nodeTold(0, 3), 3};
        Due.is("swing", due[1], -4);
        Due.is("volts", due[2], 11);
        for (int what = 0; what < 4; what++) {
            Due.is("sees(0, 2, " + what + ", 1)", x.sees(0, 2, what, 1), due[what]);
            Due.is("sees(0, 2, " + what + ", 0)", x.sees(0, 2, what, 0), due[what]);
            Due.is("sees(1, 2, " + what + ", 1)", x.sees(1, 2, what, 1), what == 3 ? 1 : due[what]);
            Due.is("sees(1, 1, " + what + ", 1)", x.sees(1, 1, what, 1), 0);
        }
        Due.is("a room of none", x.sees(2, 2, 0, 0), NO);
        Due.is("a room of none", x.sees(-1, 2, 0, 0), NO);
        Due.is("this minute", x.sees(0, 3, 0, 0), NO);
        Due.is("minute -1", x.sees(0, -1, 0, 0), NO);
        Due.is("what -1", x.sees(0, 2, -1, 0), NO);
        Due.is("what 4", x.sees(0, 2, 4, 0), NO);
        Due.is("as -1", x.sees(0, 2, 0, -1), NO);
        Due.is("as 2", x.sees(0, 2, 0, 2), NO);
    }

    private static void howLongItIsKept() {
        DarkLand x = land();
        x.run(31);
        Due.is("minute 0 at 31", x.sees(0, 0, 3, 1), 1);
        x.run(1);
        Due.is("minute 0 at 32", x.sees(0, 0, 3, 1), NO);
        Due.is("minute 1 at 32", x.sees(0, 1, 3, 1), 2);
        x.run(68);
        for (int m = 60; m < 105; m++) {
            Due.is("minute " + m + " at 100", x.sees(0, m, 3, 1), m >= 69 && m < 100 ? m + 1 : NO);
        }
        x.room(0, 30);
        x.falseSign(2, 69, 3, -500);
        Tape.read(x, "when held;");
        Due.is("30 late it sees the last that is kept", x.when(2, 1), -500);
        x.mend(0);
        Due.is("as it was", x.when(2, 1), 70);
        x.deed(3, 0);
        x.run(1);
        Due.is("as it was", x.when(2, 1), 71);
    }

    private static void aYoungNode() {
        DarkLand x = land();
        x.run(40);
        int n = x.node(3);
        x.room(n, 0);
        for (int what = 0; what < 4; what++) {
            Due.is("of a minute ahead of it", x.sees(2, 39, what, 1), 0);
            Due.is("of a minute ahead of it", x.sees(2, 9, what, 1), 0);
        }
        x.line(n, 0, 5, 0);
        x.deed(0, 1);
        x.run(1);
        Due.is("then", x.sees(2, 40, 3, 0), 1);
    }

    private static void orders() {
        DarkLand x = land();
        Due.is("order(2, 9, 9, 9)", x.order(2, 9, 9, 9), NONE);
        Due.is("order(-1, 0, 0, 0)", x.order(-1, 0, 0, 0), NONE);
        Due.is("order(0, 1, 9, 0)", x.order(0, 1, 9, 0), NONE);
        Due.is("order(0, -1, 0, 0)", x.order(0, -1, 0, 0), NONE);
        Due.is("order(0, 0, -1, 9)", x.order(0, 0, -1, 9), BAD);
        Due.is("order(0, 0, 6, 9)", x.order(0, 0, 6, 9), BAD);
        for (int deed = 0; deed < 6; deed++) {
            Due.is("order of none", x.order(0, 0, deed, 1), NONE);
            Due.is("order of none", x.order(0, 0, deed, -1), NONE);
        }
        Due.is("none came", x.count(7), 0);
        Due.is("ordered(0)", x.ordered(0), NONE);
        Due.is("order", x.order(0, 0, 4, 0), 0);
        Due.is("ordered(0)", x.ordered(0), 0);
        Due.is("ordered(1)", x.ordered(1), NONE);
        Due.is("ordered(-1)", x.ordered(-1), NONE);
        // held is 5 as of minute 4, seen in minute 5
        x.run(5);
        Due.is("not yet", x.ordered(0), 0);
        Due.is("its when", x.when(0, 0), 1);
        Due.is("a look does nothing", x.ordered(0), 0);
        x.run(1);
        Due.is("done", x.ordered(0), 1);
        Due.is("by that it is lit", x.loadTold(0, 3), 1);
        x.deed(5, 0);
        x.run(1);
        Due.is("once done it is not done again", x.loadTold(0, 0), 0);
        for (int k = 1; k < 16; k++) {
            Due.is("order " + k, x.order(1, 0, k % 4, 0), k);
        }
        Due.is("BAD ahead of FULL", x.order(0, 0, 6, 0), BAD);
        Due.is("NONE ahead of FULL", x.order(0, 0, 0, 1), NONE);
        Due.is("full", x.order(0, 0, 0, 0), FULL);
        Due.is("count(7)", x.count(7), 16);
    }

    private static void ordersAreTriedAgain() {
        DarkLand x = land();
        Tape.read(x, "when minute < 3 or 5 < minute;");
        x.order(0, 1, 0, 0);
        x.deed(3, 0);
        x.run(4);
        Due.is("dark, it can't be done", x.ordered(0), 0);
        x.deed(2, 0);
        x.run(2);
        Due.is("it could, but its when is 0", x.ordered(0), 0);
        Due.is("may(0)", x.may(0), 1);
        x.run(1);
        Due.is("done in minute 6", x.ordered(0), 1);
        Due.is("closed", x.lineTold(0), 1);
        Due.is("and lit in it", x.sees(1, 6, 0, 0), 1);
        Due.is("and not ahead of it", x.sees(1, 5, 0, 0), 0);
    }

    private static void ordersInARow() {
        DarkLand x = land();
        Tape.read(x, "when 1;");
        x.plant(2, 1, 100, 50);
        x.order(0, 1, 2, 1);
        x.order(0, 1, 0, 0);
        x.order(0, 1, 3, 0);
        x.order(0, 1, 2, 0);
        x.run(1);
        // in minute 0 the dam, warming, is stopped and started anew; it is on only behind the orders
        Due.is("START of the steam", x.ordered(0), 0);
        Due.is("CLOSE", x.ordered(1), 0);
        Due.is("STOP", x.ordered(2), 1);
        Due.is("START", x.ordered(3), 1);
        Due.is("the dam", x.plantTold(0, 1), 2);
        x.run(1);
        Due.is("START of the steam comes ahead of CLOSE", x.ordered(0), 0);
        Due.is("CLOSE", x.ordered(1), 1);
        x.run(1);
        Due.is("START of the steam", x.ordered(0), 1);
        Due.is("it is warmed in the same minute", x.plantTold(1, 3), 1);

        DarkLand y = land();
        Tape.read(y, "when 1;");
        y.plant(2, 1, 100, 50);
        y.run(1);
        y.order(0, 1, 0, 0);
        y.order(0, 1, 2, 1);
        y.run(1);
        Due.is("by numbers", y.ordered(0) + y.ordered(1), 2);
        y.order(1, 1, 3, 1);
        y.run(1);
        Due.is("a STOP by an order", y.plantTold(1, 4), 2);
    }

    private static void when() {
        DarkLand x = land();
        String[] texts = {"when minute;", "when lit * 1000 + held;", "when swing;", "when volts;", "when falls;"};
        for (int i = 0; i < texts.length; i++) {
            Due.is(texts[i], Tape.read(x, texts[i]), i + 1);
        }
        Due.is("when(2, 0)", x.when(2, 0), NO);
        Due.is("when(-1, 0)", x.when(-1, 0), NO);
        Due.is("when(0, 6)", x.when(0, 6), NO);
        Due.is("when(0, -1)", x.when(0, -1), NO);
        for (int text = 0; text < 6; text++) {
            Due.is("at minute 0, of " + text, x.when(0, text), 0);
        }
        x.falseSign(0, 0, 3, 77);
        x.falseSign(1, 0, 3, 78);
        Due.is("minute -1 is not minute 0", x.when(0, 2), 0);
        x.run(1);
        Due.is("held as it is told", x.when(0, 2), 1077);
        Due.is("2 late it sees nothing yet", x.when(1, 2), 0);
        Due.is("minute", x.when(1, 1), 1);
        x.deed(0, 0);
        x.deed(4, 0);
        x.run(1);
        Due.is("still nothing", x.when(1, 2), 0);
        Due.is("swing", x.when(0, 3), -4);
        Due.is("volts", x.when(0, 4), 11);
        Due.is("held", x.when(0, 2), 1002);
        x.run(1);
        Due.is("a false sign of minute 0, seen in minute 3", x.when(1, 2), 78);
        x.run(1);
        Due.is("minute 1, in which it was lit", x.when(1, 2), 1001);
        Due.is("swing of minute 1", x.when(1, 3), -4);
        Due.is("TEXT 0", x.when(0, 0), 0);
        x.run(1);
        Due.is("TEXT 0 as held is 5", x.when(0, 0), 1);
    }

    private static void whenFallsCome() {
        DarkLand x = land();
        x.line(0, 1, 60, 0);
        Tape.read(x, "when falls;");
        x.run(1);
        x.order(1, 1, 2, 0);
        x.deed(0, 0);
        x.deed(0, 1);
        x.run(1);
        Due.is("falls", x.when(1, 1), 1);
        Due.is("no order yet", x.ordered(0), 0);
        x.run(1);
        Due.is("the order", x.ordered(0), 1);
        Due.is("on again", x.nodeTold(0, 0), 1);
    }
}
