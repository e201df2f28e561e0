import java.util.function.Consumer;
import java.util.function.IntFunction;
import java.util.function.ToLongFunction;

/** Terms 4 (what rooms see, orders) and promises 19 to 24, a test for each sentence that names a boundary. */
public final class EdgesOfRoomsTest {
    private static final int BAD = DarkLand.BAD, NONE = DarkLand.NONE, FULL = DarkLand.FULL, STATE = DarkLand.STATE;
    private static final long NO = DarkLand.NO;
    private static final int LEAST = Integer.MIN_VALUE, MOST = Integer.MAX_VALUE;
    private static final int CLOSE = 0, OPEN = 1, START = 2, STOP = 3, LIGHT = 4, DIM = 5;
    private static final Consumer<DarkLand> FULL_OF_SIGNS = x -> {
        for (int f = 2; f < 20; f++) {
            x.falseSign(0, 3, f % 4, f);
        }
    };
    private static final Consumer<DarkLand> FULL_OF_ORDERS = x -> {
        for (int k = 2; k < 16; k++) {
            x.order(0, 0, OPEN, 1);
        }
    };

    public static void main(String[] args) {
        roomOfASign();
        minuteOfASign();
        whatOfASign();
        valueOfASign();
        signsAtMost();
        signsTellAnotherNumber();
        theSignToldLast();
        signsOfFarMinutes();
        mendOfNone();
        mendTwice();
        mendedSigns();
        seesRefuses();
        seesThirtyOneMinutes();
        seesAsToldAndAsItWas();
        seesItsNode();
        seesTheLastNodeInEachMinute();
        orderRefusesRoomAndText();
        orderRefusesDeed();
        orderRefusesOfWhat();
        ordersAtMost();
        ordersAreNotDoneAtFirst();
        orderedOfNone();
        orderedOfWhatIsDone();
        whenOfNone();
        whenChangesNothing();
        whenSeesAMinuteAgo();
        whenSeesNothingAheadOfMinuteZero();
        whenSeesFalseSigns();
        whenOfMinuteAndFalls();
        Due.end();
    }

    private static void refused(String call, int[] bad, IntFunction<ToLongFunction<DarkLand>> of, long due) {
        for (int v : bad) {
            Twins.refuses(call + " " + v, of.apply(v), due);
        }
    }

    /** A dam of weight 20 on at node 0 from minute 0 on; a line of 25 to node 1; room 0 sees node 0 at once. */
    private static DarkLand land() {
        DarkLand x = new DarkLand();
        x.node(0);
        x.node(0);
        x.line(0, 1, 25, 0);
        x.plant(1, 0, 300, 20);
        x.room(0, 0);
        x.deed(START, 0);
        return x;
    }

    /** "NONE: ROOM", ahead of BAD and FULL. */
    private static void roomOfASign() {
        int[] none = {-1, 2, LEAST, MOST};
        refused("ROOM", none, r -> x -> x.falseSign(r, 0, 0, 0), NONE);
        refused("ROOM ahead of a minute", none, r -> x -> x.falseSign(r, 601, 0, 0), NONE);
        refused("ROOM ahead of a what", none, r -> x -> x.falseSign(r, 0, 4, 0), NONE);
        refused("ROOM ahead of a value", none, r -> x -> x.falseSign(r, 0, 0, 1000), NONE);
        for (int room = 0; room < 2; room++) {
            Due.is("the last that are taken", Twins.land().falseSign(room, 0, 0, 0), 2);
        }
    }

    /** "a minute (0 .. 600, however far)" */
    private static void minuteOfASign() {
        refused("minute", new int[] {-1, 601, LEAST, MOST}, m -> x -> x.falseSign(0, m, 0, 0), BAD);
        for (int minute : new int[] {0, 3, 4, 5, 36, 600}) {
            Due.is("minute " + minute, Twins.land().falseSign(0, minute, 0, 0), 2);
        }
    }

    /** "a what (0 .. 3)" */
    private static void whatOfASign() {
        refused("what", new int[] {-1, 4, LEAST, MOST}, w -> x -> x.falseSign(0, 0, w, 0), BAD);
        for (int what = 0; what < 4; what++) {
            DarkLand x = land();
            x.run(1);
            Due.is("what " + what, x.falseSign(0, 0, what, 700 + what), 0);
            for (int other = 0; other < 4; other++) {
                int was = other == 0 || other == 3 ? 1 : other == 2 ? -10 : 0;
                Due.is("sees " + other + " by a sign of " + what, x.sees(0, 0, other, 0), other == what ? 700 + what : was);
            }
        }
    }

    /** "-999 .. 999" */
    private static void valueOfASign() {
        refused("value", new int[] {-1000, 1000, LEAST, MOST}, v -> x -> x.falseSign(0, 0, 0, v), BAD);
        for (int value : new int[] {-999, -1, 0, 999}) {
            DarkLand x = land();
            x.run(1);
            Due.is("value " + value, x.falseSign(0, 0, 3, value), 0);
            Due.is("it is told", x.sees(0, 0, 3, 0), value);
        }
    }

    /** "a FALSE sign (20 at most)": mended ones too; "FULL" behind NONE and BAD. */
    private static void signsAtMost() {
        DarkLand x = land();
        for (int f = 0; f < 20; f++) {
            Due.is("sign", x.falseSign(0, f, 0, f), f);
            Due.is("count(11)", x.count(11), f + 1);
            Due.is("mend", x.mend(f), 1);
        }
        Due.is("the 21st, though all are mended", x.falseSign(0, 0, 0, 0), FULL);
        Due.is("count(11)", x.count(11), 20);
        Twins.refusesBehind(FULL_OF_SIGNS, "the 21st", y -> y.falseSign(0, 0, 0, 0), FULL);
        Twins.refusesBehind(FULL_OF_SIGNS, "ROOM ahead of FULL", y -> y.falseSign(2, 0, 0, 0), NONE);
        Twins.refusesBehind(FULL_OF_SIGNS, "minute ahead of FULL", y -> y.falseSign(0, 601, 0, 0), BAD);
        Twins.refusesBehind(FULL_OF_SIGNS, "what ahead of FULL", y -> y.falseSign(0, 0, -1, 0), BAD);
        Twins.refusesBehind(FULL_OF_SIGNS, "value ahead of FULL", y -> y.falseSign(0, 0, 0, -1000), BAD);
    }

    /** "of a ROOM, a minute, a what tells another number": of no other ROOM, minute, what. */
    private static void signsTellAnotherNumber() {
        DarkLand x = land();
        x.room(0, 0);
        x.run(3);
        x.falseSign(1, 1, 3, 50);
        for (int room = 0; room < 2; room++) {
            for (int minute = 0; minute < 3; minute++) {
                Due.is("HELD", x.sees(room, minute, 3, 0), room == 1 && minute == 1 ? 50 : minute + 1);
                Due.is("HELD as it was", x.sees(room, minute, 3, 1), minute + 1);
                Due.is("LIT", x.sees(room, minute, 0, 0), 1);
            }
        }
    }

    /** "(of several the one told last)" */
    private static void theSignToldLast() {
        DarkLand x = land();
        x.run(1);
        for (int v = 5; v > 0; v--) {
            x.falseSign(0, 0, 3, 100 * v);
            x.falseSign(0, 0, 2, 7);
            Due.is("the one told last", x.sees(0, 0, 3, 0), 100 * v);
        }
    }

    /** "however far": of a minute to come it tells once that is seen; of one long gone it is no more seen. */
    private static void signsOfFarMinutes() {
        DarkLand x = land();
        x.falseSign(0, 5, 3, 77);
        x.falseSign(0, 600, 3, 78);
        Tape.read(x, "when held;");
        for (int t = 1; t <= 40; t++) {
            x.run(1);
            Due.is("when at " + t, x.when(0, 1), t == 6 ? 77 : t);
            Due.is("sees minute 5 at " + t, x.sees(0, 5, 3, 0), t > 5 && t < 37 ? 77 : NO);
        }
        x.falseSign(0, 0, 3, 79);
        Due.is("minute 0 is no more seen", x.sees(0, 0, 3, 0), NO);
    }

    private static void mendOfNone() {
        refused("mend", new int[] {-1, 2, LEAST, MOST}, f -> x -> x.mend(f), NONE);
        DarkLand x = land();
        for (int f = 0; f < 20; f++) {
            Due.is("ahead of it", x.mend(f), NONE);
            x.falseSign(0, f, 0, 0);
        }
        Due.is("mend(19)", x.mend(19), 1);
        Due.is("mend(20)", x.mend(20), NONE);
    }

    /** "STATE: it was." */
    private static void mendTwice() {
        Twins.refuses("mend of what is mended", x -> x.mend(0), STATE);
        DarkLand x = Twins.land();
        Due.is("mend(1)", x.mend(1), 1);
        Due.is("mend(1) again", x.mend(1), STATE);
        Due.is("mend(1) again", x.mend(1), STATE);
        Due.is("mend(0), as it was", x.mend(0), STATE);
        Due.is("count(11)", x.count(11), 2);
    }

    /** "till it is MENDED": then the one told last of those that aren't mended tells. */
    private static void mendedSigns() {
        DarkLand x = land();
        x.run(1);
        for (int v = 1; v < 5; v++) {
            x.falseSign(0, 0, 3, 100 * v);
        }
        int[] mended = {1, 3, 0, 2};
        int[] told = {400, 300, 300, 1};
        for (int i = 0; i < 4; i++) {
            Due.is("mend", x.mend(mended[i]), 1);
            Due.is("told then", x.sees(0, 0, 3, 0), told[i]);
        }
        x.falseSign(0, 0, 3, 500);
        Due.is("told anew", x.sees(0, 0, 3, 0), 500);
    }

    /** "NO: ROOM, minute, what, as." At minute 4 minutes 0 to 3 are seen. */
    private static void seesRefuses() {
        refused("ROOM", new int[] {-1, 2, LEAST, MOST}, r -> x -> x.sees(r, 3, 0, 0), NO);
        refused("minute", new int[] {-1, 4, 5, LEAST, MOST}, m -> x -> x.sees(0, m, 0, 0), NO);
        refused("what", new int[] {-1, 4, LEAST, MOST}, w -> x -> x.sees(0, 3, w, 0), NO);
        refused("as", new int[] {-1, 2, LEAST, MOST}, a -> x -> x.sees(0, 3, 0, a), NO);
        DarkLand x = new DarkLand();
        x.node(0);
        x.room(0, 0);
        Due.is("at minute 0 there is none", x.sees(0, 0, 0, 0), NO);
        x.run(1);
        Due.is("at minute 1", x.sees(0, 0, 0, 0), 0);
        Due.is("this minute", x.sees(0, 1, 0, 0), NO);
    }

    /** "one of the 31 minutes ahead of this one" */
    private static void seesThirtyOneMinutes() {
        for (int at : new int[] {30, 31, 32, 33, 62, 63, 64, 97}) {
            for (int as = 0; as < 2; as++) {
                DarkLand x = land();
                x.run(at);
                Due.is("the minute before at " + at, x.sees(0, at - 1, 3, as), at);
                Due.is("this minute at " + at, x.sees(0, at, 3, as), NO);
                Due.is("the 31st at " + at, x.sees(0, at - 31, 3, as), at < 31 ? NO : at - 30);
                Due.is("the 32nd at " + at, x.sees(0, at - 32, 3, as), NO);
                Due.is("minute -1 at " + at, x.sees(0, -1, 3, as), NO);
            }
        }
        DarkLand x = land();
        for (int i = 0; i < 6; i++) {
            x.run(100);
        }
        Due.is("the minute before 600", x.sees(0, 599, 3, 1), 600);
        Due.is("the 31st ahead of 600", x.sees(0, 569, 3, 1), 570);
        Due.is("the 32nd ahead of 600", x.sees(0, 568, 3, 1), NO);
        Due.is("minute 600", x.sees(0, 600, 3, 1), NO);
    }

    /** "as 0 it is told, 1 it was" */
    private static void seesAsToldAndAsItWas() {
        Twins.looks("as it is told", x -> x.sees(1, 2, 3, 0), 50);
        Twins.looks("as it was", x -> x.sees(1, 2, 3, 1), 3);
        Twins.looks("a mended sign", x -> x.sees(1, 3, 1, 0), -3);
        Twins.looks("and as it was", x -> x.sees(1, 3, 1, 1), -3);
    }

    /** "A ROOM SEES of its NODE what was kept of a minute": its delay is nothing to sees(). */
    private static void seesItsNode() {
        DarkLand x = land();
        x.node(0);
        x.room(1, 30);
        x.room(2, 0);
        x.load(1, 20, 0);
        x.deed(LIGHT, 0);
        x.run(1);
        x.deed(CLOSE, 0);
        x.run(1);
        int[] due = {1, -4, 25 - 4 - 10, 1};
        for (int what = 0; what < 4; what++) {
            Due.is("node 1 in minute 1", x.sees(1, 1, what, 1), due[what]);
            Due.is("node 1 in minute 0", x.sees(1, 0, what, 1), 0);
            Due.is("node 2 in minute 1", x.sees(2, 1, what, 1), 0);
            Due.is("node 0 in minute 1", x.sees(0, 1, what, 1), what == 3 ? 2 : due[what]);
        }
    }

    /** The last of 14 NODES, in each of so many minutes that all that is kept is kept anew. */
    private static void seesTheLastNodeInEachMinute() {
        DarkLand x = new DarkLand();
        for (int n = 0; n < 14; n++) {
            x.node(0);
        }
        x.plant(1, 13, 100, 10);
        x.room(13, 0);
        x.room(0, 0);
        Tape.read(x, "when held;");
        x.deed(START, 0);
        for (int t = 1; t < 80; t++) {
            x.run(1);
            Due.is("when at " + t, x.when(0, 1), t);
            Due.is("HELD of the minute before " + t, x.sees(0, t - 1, 3, 0), t);
            Due.is("HELD of the first node", x.sees(1, t - 1, 3, 0), 0);
        }
    }

    /** "NONE: ROOM, TEXT", ahead of BAD. */
    private static void orderRefusesRoomAndText() {
        int[] none = {-1, 2, LEAST, MOST};
        refused("ROOM", none, r -> x -> x.order(r, 0, 0, 0), NONE);
        refused("ROOM ahead of DEED", none, r -> x -> x.order(r, 0, 6, 0), NONE);
        refused("TEXT", none, t -> x -> x.order(0, t, 0, 0), NONE);
        refused("TEXT ahead of DEED", none, t -> x -> x.order(0, t, 6, 0), NONE);
        for (int room = 0; room < 2; room++) {
            for (int text = 0; text < 2; text++) {
                Due.is("the last that are taken", Twins.land().order(room, text, 0, 0), 2);
            }
        }
    }

    /** "BAD: DEED (ahead of of what)" */
    private static void orderRefusesDeed() {
        int[] bad = {-1, 6, LEAST, MOST};
        refused("DEED", bad, d -> x -> x.order(0, 0, d, 0), BAD);
        refused("DEED ahead of of what", bad, d -> x -> x.order(0, 0, d, 99), BAD);
        refused("DEED ahead of of what", bad, d -> x -> x.order(0, 0, d, -1), BAD);
    }

    /** "NONE: .. of what": LINES, PLANTS or LOADS, as the DEED is. */
    private static void orderRefusesOfWhat() {
        for (int d = 0; d < 6; d++) {
            int deed = d;
            refused("of what, DEED " + d, new int[] {-1, 3, LEAST, MOST}, w -> x -> x.order(0, 0, deed, w), NONE);
            Due.is("the first of what", Twins.land().order(0, 0, d, 0), 2);
            Due.is("the last of what", Twins.land().order(0, 0, d, 2), 2);
        }
        DarkLand x = land();
        x.load(0, 1, 0);
        x.load(0, 1, 0);
        x.load(0, 1, 0);
        x.plant(1, 0, 1, 1);
        int[] many = {1, 1, 2, 2, 3, 3};
        for (int deed = 0; deed < 6; deed++) {
            for (int what = 0; what < 5; what++) {
                Due.is("order of DEED " + deed + " of " + what, x.order(0, 0, deed, what) >= 0 ? 1 : 0, what < many[deed] ? 1 : 0);
            }
        }
    }

    /** "ORDERS are numbered from 0 on, 16 at most"; "FULL" behind all else, though all are done. */
    private static void ordersAtMost() {
        DarkLand x = land();
        x.load(0, 1, 0);
        Tape.read(x, "when 1;");
        for (int k = 0; k < 16; k++) {
            Due.is("order", x.order(0, 1, k % 2 == 0 ? LIGHT : DIM, 0), k);
            Due.is("count(7)", x.count(7), k + 1);
        }
        Due.is("the 17th", x.order(0, 1, LIGHT, 0), FULL);
        x.run(1);
        for (int k = 0; k < 16; k++) {
            Due.is("done", x.ordered(k), 1);
        }
        Due.is("the 17th, though all are done", x.order(0, 1, LIGHT, 0), FULL);
        Due.is("count(7)", x.count(7), 16);
        Twins.refusesBehind(FULL_OF_ORDERS, "the 17th", y -> y.order(0, 0, 0, 0), FULL);
        Twins.refusesBehind(FULL_OF_ORDERS, "ROOM ahead of FULL", y -> y.order(2, 0, 0, 0), NONE);
        Twins.refusesBehind(FULL_OF_ORDERS, "TEXT ahead of FULL", y -> y.order(0, 2, 0, 0), NONE);
        Twins.refusesBehind(FULL_OF_ORDERS, "DEED ahead of FULL", y -> y.order(0, 0, 6, 0), BAD);
        Twins.refusesBehind(FULL_OF_ORDERS, "of what ahead of FULL", y -> y.order(0, 0, 0, 3), NONE);
    }

    /** An order is not done as it is told, not even if it could be: only in a minute. */
    private static void ordersAreNotDoneAtFirst() {
        DarkLand x = land();
        x.load(0, 1, 0);
        Tape.read(x, "when 1;");
        x.order(0, 1, LIGHT, 0);
        Due.is("ordered(0)", x.ordered(0), 0);
        Due.is("off", x.loadTold(0, 0), 0);
        x.run(1);
        Due.is("ordered(0)", x.ordered(0), 1);
        Due.is("on", x.loadTold(0, 0), 1);
    }

    private static void orderedOfNone() {
        refused("ordered", new int[] {-1, 2, LEAST, MOST}, k -> x -> x.ordered(k), NONE);
        DarkLand x = land();
        for (int k = 0; k < 16; k++) {
            Due.is("ahead of it", x.ordered(k), NONE);
            x.order(0, 0, CLOSE, 0);
            Due.is("behind it", x.ordered(k), 0);
        }
        Due.is("ordered(16)", x.ordered(16), NONE);
    }

    private static void orderedOfWhatIsDone() {
        Twins.looks("ordered(0)", x -> x.ordered(0), 1);
        Twins.looks("ordered(1)", x -> x.ordered(1), 0);
        // what an order wants, done by a deed, is not done by the order
        DarkLand x = land();
        x.load(0, 1, 0);
        Tape.read(x, "when 1;");
        x.order(0, 1, LIGHT, 0);
        x.deed(LIGHT, 0);
        x.run(3);
        Due.is("it can't be done", x.ordered(0), 0);
        x.deed(DIM, 0);
        x.run(1);
        Due.is("now it can", x.ordered(0), 1);
    }

    /** "NO: none such." */
    private static void whenOfNone() {
        int[] none = {-1, 2, LEAST, MOST};
        refused("when, ROOM", none, r -> x -> x.when(r, 0), NO);
        refused("when, TEXT", none, t -> x -> x.when(0, t), NO);
        DarkLand x = land();
        for (int text = 1; text < 6; text++) {
            Due.is("ahead of it", x.when(0, text), NO);
            Tape.read(x, "when -" + text + ";");
            Due.is("behind it", x.when(0, text), -text);
        }
        Due.is("when(0, 6)", x.when(0, 6), NO);
    }

    private static void whenChangesNothing() {
        Twins.looks("when(0, 0)", x -> x.when(0, 0), 0);
        Twins.looks("when(1, 1)", x -> x.when(1, 1), 4);
        Twins.looks("when(0, 1)", x -> x.when(0, 1), 1);
    }

    /** "lit, swing, volts, held: as it SEES minute t less 1 less its DELAY" */
    private static void whenSeesAMinuteAgo() {
        String[] names = {"lit", "swing", "volts", "held"};
        // minute 2: nothing drawn; 3: a load of 20 that comes back cold; 4: dark
        int[][] seen = {{1, 0, -10, 3}, {1, -4, -14, 4}, {0, 0, 0, 0}};
        for (int delay : new int[] {0, 1, 2, 7, 30}) {
            DarkLand x = land();
            x.room(0, delay);
            for (int i = 0; i < 4; i++) {
                Due.is("text", Tape.read(x, "when " + names[i] + ";"), i + 1);
            }
            x.load(0, 20, 0);
            for (int t = 0; t <= 5 + delay; t++) {
                int minute = t - 1 - delay;
                for (int i = 0; i < 4 && minute >= 2; i++) {
                    Due.is(names[i] + " of minute " + minute + ", " + delay + " late", x.when(1, i + 1), seen[minute - 2][i]);
                }
                if (t == 3) {
                    x.deed(LIGHT, 0);
                }
                if (t == 4) {
                    x.deed(STOP, 0);
                }
                x.run(1);
            }
        }
    }

    /** "(0, if that is below 0)": then lit, swing, volts, held are 0, whatever minute 0 was or is told to have been. */
    private static void whenSeesNothingAheadOfMinuteZero() {
        for (int delay : new int[] {0, 1, 5, 30}) {
            DarkLand x = land();
            x.room(0, delay);
            Tape.read(x, "when lit * 100 + held + swing + volts;");
            for (int what = 0; what < 4; what++) {
                x.falseSign(1, 0, what, 3);
            }
            for (int t = 0; t <= delay; t++) {
                Due.is("at minute " + t + ", " + delay + " late", x.when(1, 1), 0);
                x.run(1);
            }
            Due.is("minute 0 as it is told, " + delay + " late", x.when(1, 1), 309);
            x.run(1);
            Due.is("minute 1, " + delay + " late", x.when(1, 1), 100 + 2 - 10);
        }
    }

    /** A when sees what is told, not what was; an ORDER is done by that. */
    private static void whenSeesFalseSigns() {
        DarkLand x = land();
        Tape.read(x, "when held = 99;");
        x.load(0, 1, 0);
        x.order(0, 1, LIGHT, 0);
        x.falseSign(0, 3, 3, 99);
        x.run(4);
        Due.is("when at 4", x.when(0, 1), 1);
        x.mend(0);
        Due.is("when, mended", x.when(0, 1), 0);
        x.falseSign(0, 3, 3, 99);
        Due.is("not yet", x.ordered(0), 0);
        x.run(1);
        Due.is("done in minute 4", x.ordered(0), 1);
        Due.is("when at 5", x.when(0, 1), 0);
    }

    /** "minute: t"; "falls: how many there were", more than the first 20 too, with no delay. */
    private static void whenOfMinuteAndFalls() {
        DarkLand x = new DarkLand();
        x.node(0);
        x.plant(1, 0, 100, 1);
        x.load(0, 90, 0);
        x.room(0, 30);
        Tape.read(x, "when minute;");
        Tape.read(x, "when falls;");
        x.deed(LIGHT, 0);
        for (int i = 0; i < 22; i++) {
            Due.is("minute", x.when(0, 1), i);
            Due.is("falls", x.when(0, 2), i);
            x.deed(START, 0);
            x.run(1);
        }
        for (int i = 0; i < 5; i++) {
            x.run(100);
        }
        x.run(78);
        Due.is("minute at the end", x.when(0, 1), 600);
        Due.is("falls at the end", x.when(0, 2), 22);
    }
}
