/** Terms 3, a minute in its order: a test for each sentence that names a boundary. */
public final class EdgesOfMinutesTest {
    private static final int NONE = DarkLand.NONE;
    private static final int CLOSE = 0, OPEN = 1, START = 2, STOP = 3, LIGHT = 4, DIM = 5;

    public static void main(String[] args) {
        crewsAreThereAheadOfOrders();
        ordersByNumbers();
        ordersWhenTheirWhenIsNotZero();
        ordersAreTriedAgain();
        ordersAreDoneOnce();
        ordersAheadOfPlants();
        warmingGoesOffInTheDark();
        warmingAloneGoesOnInTheDark();
        litAsItWasAheadOfThePlants();
        warmedUpToWarms();
        warmsAsItWasOffSoLong();
        onWithNothingPutOut();
        litByWhatIsOn();
        onlyLitIslandsFollow();
        demandOfLoadsAndNeeds();
        coldLoadsDrawDouble();
        coldIsDarkForThirty();
        coldAtFirst();
        drawIsCut();
        drawOfHundreds();
        outByRampAtMost();
        outByNumbers();
        outDownToZero();
        swingIsCut();
        swingAddsUp();
        fourthIsCut();
        volts();
        spare();
        fallsBelow();
        fallsAbove();
        fallsByVolts();
        whyIsTheFirst();
        fallsByTheirLeastNodes();
        fallOfAnIslandAlone();
        fallStopsWhatIsNotOff();
        fallOpensItsLines();
        firstTwentyFalls();
        loadsAreDarkInTheirFall();
        servedAndDark();
        heldOfTheLit();
        nothingOfTheDark();
        keptForThirtyOne();
        aLandThatIsFull();
        Due.end();
    }

    /** Nodes at x 0, a dam of 400 and a weight on at node 0 from minute 1 on. */
    private static DarkLand land(int nodes, int weight) {
        DarkLand x = new DarkLand();
        for (int n = 0; n < nodes; n++) {
            x.node(0);
        }
        x.plant(1, 0, 400, weight);
        x.deed(START, 0);
        x.run(1);
        return x;
    }

    private static int load(DarkLand x, int node, int draw) {
        int l = x.load(node, draw, 0);
        Due.is("LIGHT", x.deed(LIGHT, l), 1);
        return l;
    }

    private static void order(DarkLand x, int text, int deed, int what) {
        Due.holds("order", x.order(0, text, deed, what) >= 0);
    }

    /** "(1) CREWS on their way: a minute less; at 0 they are there." ahead of "(2) ORDERS" */
    private static void crewsAreThereAheadOfOrders() {
        DarkLand x = new DarkLand();
        x.node(0);
        x.node(3);
        x.plant(1, 0, 100, 10);
        x.line(0, 1, 0, 1);
        x.crew(1);
        x.room(0, 0);
        Tape.read(x, "when 1;");
        x.deed(START, 0);
        x.run(1);
        order(x, 1, CLOSE, 0);
        x.go(0, 0);
        for (int left = 2; left >= 0; left--) {
            x.run(1);
            Due.is("it still goes", x.crewTold(0, 1), left);
            Due.is("where it is", x.crewTold(0, 0), left == 0 ? 0 : 1);
        }
        // it stood at node 1, that it went from, an end too: only there, in the third minute, it is not on its way
        Due.is("the order of the third minute", x.ordered(0), 1);
        Due.is("HELD: not of the second", x.nodeTold(1, 5), 1);
    }

    /** "(2) ORDERS that aren't done, by numbers" */
    private static void ordersByNumbers() {
        DarkLand x = land(1, 10);
        x.room(0, 0);
        Tape.read(x, "when 1;");
        x.load(0, 5, 0);
        order(x, 1, LIGHT, 0);
        order(x, 1, DIM, 0);
        order(x, 1, LIGHT, 0);
        x.run(1);
        Due.is("all in one minute", x.ordered(0) + x.ordered(1) + x.ordered(2), 3);
        Due.is("on", x.loadTold(0, 0), 1);
        DarkLand y = land(1, 10);
        y.room(0, 0);
        Tape.read(y, "when 1;");
        y.load(0, 5, 0);
        order(y, 1, DIM, 0);
        order(y, 1, LIGHT, 0);
        y.run(1);
        Due.is("DIM could not be done", y.ordered(0), 0);
        Due.is("LIGHT", y.ordered(1), 1);
        y.run(1);
        Due.is("DIM", y.ordered(0), 1);
        Due.is("off", y.loadTold(0, 0), 0);
    }

    /** "if when of its TEXT isn't 0 for its ROOM" */
    private static void ordersWhenTheirWhenIsNotZero() {
        String[] texts = {"when 0;", "when 1;", "when -1;", "when 2;", "when 1 - 1;"};
        int[] done = {0, 1, 1, 1, 0};
        DarkLand x = land(1, 10);
        x.room(0, 0);
        for (int i = 0; i < texts.length; i++) {
            Due.is(texts[i], Tape.read(x, texts[i]), i + 1);
            x.load(0, 1, 0);
            order(x, i + 1, LIGHT, i);
        }
        x.run(3);
        for (int i = 0; i < texts.length; i++) {
            Due.is("order by " + texts[i], x.ordered(i), done[i]);
            Due.is("load by " + texts[i], x.loadTold(i, 3), 3 * done[i]);
        }
        // the same text for a room that is late
        DarkLand y = land(1, 10);
        y.room(0, 0);
        y.room(0, 2);
        Tape.read(y, "when lit;");
        y.load(0, 1, 0);
        y.load(0, 1, 0);
        y.order(0, 1, LIGHT, 0);
        y.order(1, 1, LIGHT, 1);
        for (int m = 1; m < 5; m++) {
            y.run(1);
            Due.is("at once", y.ordered(0), 1);
            Due.is("two late, in minute " + m, y.ordered(1), m >= 3 ? 1 : 0);
        }
    }

    /** "else it is tried again in the next minutes": when its when isn't 0 then. */
    private static void ordersAreTriedAgain() {
        DarkLand x = land(2, 10);
        x.room(0, 0);
        Tape.read(x, "when minute < 3 or 4 < minute;");
        x.line(1, 0, 0, 0);
        order(x, 1, OPEN, 0);
        x.run(2);
        Due.is("it can't be done", x.ordered(0), 0);
        x.deed(CLOSE, 0);
        x.run(2);
        Due.is("it could be done in minutes 3 and 4", x.ordered(0), 0);
        x.run(1);
        Due.is("done in minute 5", x.ordered(0), 1);
        Due.is("OPEN", x.lineTold(0), 0);
    }

    /** "ORDERS that aren't done": one that is done isn't done again. */
    private static void ordersAreDoneOnce() {
        DarkLand x = land(1, 10);
        x.room(0, 0);
        Tape.read(x, "when 1;");
        x.load(0, 5, 0);
        order(x, 1, LIGHT, 0);
        x.run(1);
        x.deed(DIM, 0);
        x.run(5);
        Due.is("it stays off", x.loadTold(0, 0), 0);
        Due.is("ordered(0)", x.ordered(0), 1);
    }

    /** (2) is ahead of (3) and (4): what an order starts warms in the same minute, what it lights draws in it. */
    private static void ordersAheadOfPlants() {
        DarkLand x = land(1, 10);
        x.room(0, 0);
        Tape.read(x, "when 1;");
        x.plant(1, 0, 50, 5);
        x.load(0, 5, 0);
        order(x, 1, START, 1);
        order(x, 1, LIGHT, 0);
        x.run(1);
        Due.is("ON", x.plantTold(1, 1), 2);
        Due.is("OUT of the first", x.plantTold(0, 2), 10);
        Due.is("SERVED", x.loadTold(0, 3), 1);
        order(x, 1, STOP, 0);
        order(x, 1, STOP, 1);
        x.run(1);
        Due.is("FELL of a STOP in this minute", x.plantTold(0, 4), 2);
        Due.is("dark in this minute", x.loadTold(0, 3), 1);
    }

    /** "if it doesn't start ALONE, and its NODE isn't LIT: OFF, WARMED 0 (FELL stays)." */
    private static void warmingGoesOffInTheDark() {
        for (int kind = 0; kind < 6; kind += kind == 0 ? 2 : kind == 2 ? 2 : 1) {
            DarkLand x = land(1, 10);
            x.plant(kind, 0, 50, 5);
            x.deed(START, 1);
            x.run(2);
            x.deed(STOP, 1);
            x.deed(START, 1);
            x.run(2);
            Due.is("WARMED", x.plantTold(1, 3), 2);
            x.deed(STOP, 0);
            Due.is("still WARMING", x.plantTold(1, 1), 1);
            x.run(1);
            Due.is("OFF", x.plantTold(1, 1), 0);
            Due.is("WARMED", x.plantTold(1, 3), 0);
            Due.is("FELL stays", x.plantTold(1, 4), 3);
            Due.is("no FALL", x.count(10), 0);
        }
    }

    private static void warmingAloneGoesOnInTheDark() {
        for (int kind = 1; kind < 4; kind += 2) {
            DarkLand x = new DarkLand();
            x.node(0);
            x.plant(kind, 0, 50, 5);
            x.deed(START, 0);
            x.run(1);
            Due.is("ON", x.plantTold(0, 1), 2);
            Due.is("WARMED", x.plantTold(0, 3), 1);
        }
    }

    /** "(LIT, for all of these, as it was ahead of (3).)": what comes on in this minute warms no other in it. */
    private static void litAsItWasAheadOfThePlants() {
        for (int steam = 1; steam <= 2; steam++) {
            DarkLand x = land(1, 10);
            int dam = 3 - steam;
            x.plant(steam == 1 ? 2 : 1, 0, 50, 5);
            x.plant(steam == 2 ? 2 : 1, 0, 50, 5);
            Due.is("START of the steam", x.deed(START, steam), 1);
            x.run(1);
            x.deed(STOP, 0);
            x.deed(START, dam);
            x.run(1);
            Due.is("the dam is ON", x.plantTold(dam, 1), 2);
            Due.is("the steam is OFF", x.plantTold(steam, 1), 0);
            Due.is("its node is LIT now", x.nodeTold(0, 0), 1);
            // in its last minute it still warms by a dam that goes with the next deed
            DarkLand y = land(1, 10);
            y.plant(2, 0, 50, 5);
            y.deed(START, 1);
            y.run(5);
            Due.is("ON by the fifth", y.plantTold(1, 1), 2);
            y.deed(STOP, 0);
            Due.is("LIT by itself", y.nodeTold(0, 0), 1);
        }
    }

    /** "Else WARMED is 1 more; if that is WARMS (OFF being t less FELL) or more, it is ON" */
    private static void warmedUpToWarms() {
        int[] warms = {5, 1, 5, 1, 10, 25};
        for (int kind = 0; kind < 6; kind++) {
            DarkLand x = land(1, 10);
            x.plant(kind, 0, 50, 5);
            x.deed(START, 1);
            for (int m = 1; m <= warms[kind] + 2; m++) {
                x.run(1);
                Due.is("state of kind " + kind + " behind " + m, x.plantTold(1, 1), m >= warms[kind] ? 2 : 1);
                Due.is("WARMED of kind " + kind + " behind " + m, x.plantTold(1, 3), Math.min(m, warms[kind]));
            }
        }
    }

    /** OFF is t less FELL, of the minute in which it would come on: 30 is not long yet, 31 is. */
    private static void warmsAsItWasOffSoLong() {
        int[][] warms = {{2, 5, 20}, {4, 10, 25}, {0, 5, 5}, {5, 25, 140}};
        for (int[] of : warms) {
            for (int late = 0; late < 2; late++) {
                for (int fell = 0; fell < 14; fell += 13) {
                    DarkLand x = land(1, 10);
                    x.plant(of[0], 0, 50, 5);
                    if (fell > 0) {
                        x.run(fell - 1);
                        x.deed(START, 1);
                        x.deed(STOP, 1);
                    }
                    // the first minute in which it warms, so that in the last OFF is 30, or 31
                    int start = fell + 30 - of[1] + 1 + late;
                    x.run(start - x.count(0));
                    x.deed(START, 1);
                    x.run(of[1] - 1);
                    Due.is("state, a minute short", x.plantTold(1, 1), 1);
                    x.run(1);
                    boolean on = late == 0 || of[2] == of[1];
                    Due.is("state behind " + of[1], x.plantTold(1, 1), on ? 2 : 1);
                    for (int n = of[2] - of[1] - 1; n > 0 && !on; n -= 100) {
                        x.run(Math.min(n, 100));
                        Due.is("still WARMING", x.plantTold(1, 1), 1);
                    }
                    x.run(1);
                    Due.is("state behind " + of[2], x.plantTold(1, 1), 2);
                    Due.is("WARMED", x.plantTold(1, 3), on ? of[1] : of[2]);
                }
            }
        }
    }

    /** "it is ON, with OUT 0": then it follows in the same minute, from 0 on. */
    private static void onWithNothingPutOut() {
        DarkLand x = new DarkLand();
        x.node(0);
        x.plant(1, 0, 400, 40);
        x.load(0, 100, 0);
        x.deed(LIGHT, 0);
        x.deed(START, 0);
        x.run(1);
        // 200 drawn, 30 put out
        Due.is("fell at once", x.fall(0, 2), 1);
        x.deed(DIM, 0);
        x.deed(START, 0);
        int small = load(x, 0, 20);
        x.run(1);
        Due.is("OUT by a ramp from 0", x.plantTold(0, 2), 30);
        x.deed(DIM, small);
        x.deed(STOP, 0);
        x.deed(START, 0);
        x.run(1);
        Due.is("OUT from 0 anew", x.plantTold(0, 2), 0);
    }

    /** "Then ISLANDS are LIT by what is ON." */
    private static void litByWhatIsOn() {
        DarkLand x = new DarkLand();
        x.node(0);
        x.plant(1, 0, 400, 40);
        x.load(0, 10, 0);
        x.deed(LIGHT, 0);
        x.deed(START, 0);
        x.run(1);
        Due.is("the load is lit in the minute in which the dam comes on", x.loadTold(0, 3), 1);
        Due.is("LIT", x.sees(x.room(0, 0), 0, 0, 1), 1);
        Due.is("HELD", x.nodeTold(0, 5), 1);
    }

    /** "(4) ISLANDS that are LIT": dark ones have no demand, no swing. */
    private static void onlyLitIslandsFollow() {
        DarkLand x = land(2, 10);
        load(x, 1, 900);
        x.line(0, 1, 99, 0);
        x.run(3);
        for (int what = 2; what < 6; what++) {
            Due.is("nodeTold(1, " + what + ")", x.nodeTold(1, what), 0);
        }
        Due.is("no FALL", x.count(10), 0);
        Due.is("OUT of the dam elsewhere", x.plantTold(0, 2), 0);
    }

    /** "DEMAND: what LOADS that are on there draw, and NEEDS of PLANTS that are WARMING there." */
    private static void demandOfLoadsAndNeeds() {
        DarkLand x = land(2, 99);
        x.load(0, 100, 0);
        load(x, 1, 100);
        x.plant(2, 0, 199, 5);
        x.plant(2, 0, 199, 5);
        x.run(1);
        Due.is("of what is off, dark, or stands elsewhere nothing", x.plantTold(0, 2), 0);
        x.deed(START, 1);
        x.run(1);
        Due.is("NEED", x.plantTold(0, 2), 20);
        load(x, 0, 4);
        x.run(1);
        Due.is("NEED and a load", x.plantTold(0, 2), 28);
        x.run(2);
        Due.is("two minutes on", x.plantTold(0, 2), 20 + 4 * 180 / 100);
        x.run(1);
        Due.is("what is ON has no NEED, and puts out too", x.plantTold(0, 2) + x.plantTold(1, 2), 4 * 170 / 100);
        for (int dam = 0; dam < 8; dam++) {
            DarkLand y = new DarkLand();
            y.node(0);
            for (int p = 0; p < 8; p++) {
                y.plant(p == dam ? 1 : 0, 0, 40, 99);
            }
            y.deed(START, dam);
            y.run(1);
            for (int p = 0; p < 8; p++) {
                y.deed(START, p);
            }
            y.run(1);
            Due.is("seven NEEDS of 3", y.plantTold(dam, 2), 21);
        }
    }

    /** "200 less 10 for each minute for which it has been lit, 100 at least" */
    private static void coldLoadsDrawDouble() {
        DarkLand x = land(1, 99);
        load(x, 0, 10);
        for (int m = 0; m < 14; m++) {
            int draw = m < 10 ? 20 - m : 10;
            Due.is("what it would draw behind " + m, x.loadTold(0, 2), draw);
            x.run(1);
            Due.is("OUT behind " + m, x.plantTold(0, 2), draw);
        }
    }

    /** "COLD: it was dark for 30 minutes or more as it became lit" */
    private static void coldIsDarkForThirty() {
        for (int dark = 28; dark <= 32; dark++) {
            for (int by = 0; by < 2; by++) {
                DarkLand x = land(2, 99);
                x.line(0, 1, 0, 0);
                x.deed(CLOSE, 0);
                load(x, 1, 10);
                x.run(20);
                Due.is("warm by now", x.loadTold(0, 2), 10);
                // dark as it is off, or as its node is dark
                x.deed(by == 0 ? DIM : OPEN, 0);
                x.run(dark);
                Due.is("what it would draw, dark for " + dark, x.loadTold(0, 2), dark >= 30 ? 20 : 10);
                x.deed(by == 0 ? LIGHT : CLOSE, 0);
                x.run(1);
                Due.is("OUT, dark for " + dark, x.plantTold(0, 2), dark >= 30 ? 20 : 10);
                Due.is("what it would draw next", x.loadTold(0, 2), dark >= 30 ? 19 : 10);
                x.run(1);
                Due.is("OUT next", x.plantTold(0, 2), dark >= 30 ? 19 : 10);
            }
        }
        // two darks of 29 with a minute lit between are none of 30
        DarkLand x = land(1, 99);
        load(x, 0, 10);
        x.run(11);
        for (int i = 0; i < 2; i++) {
            x.deed(DIM, 0);
            x.run(29);
            x.deed(LIGHT, 0);
            x.run(1);
            Due.is("OUT", x.plantTold(0, 2), 10);
        }
        Due.is("DARK in all", x.loadTold(0, 4), 58);
    }

    /** "(LOADS: at first dark for 60 minutes.)": cold in minute 0 too, and told late too; DARK is 0 at first. */
    private static void coldAtFirst() {
        DarkLand x = new DarkLand();
        x.node(0);
        x.plant(1, 0, 400, 40);
        x.load(0, 10, 0);
        Due.is("DARK at first", x.loadTold(0, 4), 0);
        Due.is("SERVED at first", x.loadTold(0, 3), 0);
        Due.is("not lit in the minute before", x.loadTold(0, 1), 0);
        x.deed(LIGHT, 0);
        x.deed(START, 0);
        x.run(1);
        Due.is("OUT in minute 0", x.plantTold(0, 2), 20);
        DarkLand y = land(1, 40);
        y.run(50);
        load(y, 0, 10);
        Due.is("DARK at first, late", y.loadTold(0, 4), 0);
        y.run(1);
        Due.is("OUT", y.plantTold(0, 2), 20);
        Due.is("DARK", y.loadTold(0, 4), 0);
    }

    /** "by 100 (cut)" */
    private static void drawIsCut() {
        int[][] due = {{1, 2, 1, 1, 1}, {3, 6, 5, 5, 5}, {7, 14, 13, 12, 11}, {999, 1998, 1898, 1798, 1698}};
        for (int[] of : due) {
            DarkLand x = new DarkLand();
            x.node(0);
            x.plant(1, 0, 999, 99);
            x.plant(1, 0, 999, 99);
            x.load(0, of[0], 0);
            Due.is("cold", x.loadTold(0, 2), of[1]);
            if (of[0] == 999) {
                continue;
            }
            x.deed(START, 0);
            x.deed(LIGHT, 0);
            for (int m = 1; m < 5; m++) {
                x.run(1);
                Due.is("OUT of " + of[0], x.plantTold(0, 2), of[m]);
            }
        }
    }

    /** The same of a draw of hundreds, that eight pumped follow; behind 10 minutes it is as it is told. */
    private static void drawOfHundreds() {
        DarkLand x = new DarkLand();
        x.node(0);
        for (int p = 0; p < 8; p++) {
            x.plant(3, 0, 999, 99);
            x.deed(START, p);
        }
        x.run(1);
        load(x, 0, 199);
        int[] due = {398, 378, 358, 338, 318, 298, 278, 258, 238, 218, 199, 199, 199, 199};
        for (int m = 0; m < due.length; m++) {
            Due.is("what it would draw behind " + m, x.loadTold(0, 2), due[m]);
            x.run(1);
            int out = 0;
            for (int p = 0; p < 8; p++) {
                out += x.plantTold(p, 2);
            }
            Due.is("all OUT behind " + m, out, due[m]);
        }
    }

    /** "OUT goes by RAMP at most towards what DEMAND lacks" */
    private static void outByRampAtMost() {
        int[] ramp = {10, 30, 10, 50, 5, 1};
        int[] warms = {5, 1, 5, 1, 10, 25};
        for (int kind = 0; kind < 6; kind++) {
            for (int over = 0; over < 2; over++) {
                DarkLand x = new DarkLand();
                x.node(0);
                x.plant(kind, 0, 400, 99);
                x.plant(1, 0, 1, 99);
                x.deed(START, 1);
                x.run(1);
                x.deed(START, 0);
                x.run(warms[kind]);
                Due.is("ON", x.plantTold(0, 1), 2);
                x.deed(STOP, 1);
                // it comes back cold: with double, so that a ramp is less than what lacks
                int l = load(x, 0, ramp[kind] + over);
                x.run(1);
                Due.is("OUT of kind " + kind, x.plantTold(0, 2), ramp[kind]);
                x.run(1);
                int draw = (ramp[kind] + over) * 190 / 100;
                Due.is("OUT of kind " + kind, x.plantTold(0, 2), Math.min(2 * ramp[kind], draw));
                Due.is("no FALL", x.count(10), 0);
                x.deed(DIM, l);
                int was = x.plantTold(0, 2);
                x.run(1);
                Due.is("OUT down of kind " + kind, x.plantTold(0, 2), Math.max(0, was - ramp[kind]));
            }
        }
    }

    /** "PLANTS that are ON there, by numbers: OUT goes .. towards what DEMAND lacks (less all OUT there then, or too much)" */
    private static void outByNumbers() {
        DarkLand x = land(1, 99);
        x.plant(1, 0, 400, 99);
        x.plant(3, 0, 400, 99);
        x.deed(START, 1);
        x.deed(START, 2);
        x.run(1);
        int a = load(x, 0, 50);
        x.run(1);
        outs(x, 30, 30, 40);
        x.run(1);
        // 95 drawn: 5 too much, that the first takes back
        outs(x, 25, 30, 40);
        int b = load(x, 0, 10);
        x.run(1);
        // 90 and 20: 15 lacking, that the first puts out
        outs(x, 40, 30, 40);
        x.deed(DIM, b);
        x.run(1);
        // 85 drawn, 25 too much
        outs(x, 15, 30, 40);
        x.deed(DIM, a);
        x.run(1);
        outs(x, 0, 0, 0);
        x.deed(LIGHT, a);
        x.run(1);
        // lit again behind one dark minute it is warm: 50
        outs(x, 30, 20, 0);
        x.deed(STOP, 0);
        x.run(1);
        outs(x, 0, 50, 0);
    }

    private static void outs(DarkLand x, int... due) {
        for (int p = 0; p < due.length; p++) {
            Due.is("OUT of " + p + " at " + x.count(0), x.plantTold(p, 2), due[p]);
        }
    }

    /** "0 .. MOST" */
    private static void outDownToZero() {
        DarkLand x = land(1, 99);
        x.plant(1, 0, 5, 99);
        int l = load(x, 0, 10);
        x.run(1);
        outs(x, 20, 0);
        x.deed(START, 1);
        x.run(1);
        outs(x, 19, 0);
        load(x, 0, 16);
        x.run(1);
        // 18 and 32: the first 30 more, the second what lacks
        outs(x, 49, 1);
        load(x, 0, 20);
        x.run(1);
        // 17 and 30 and 40: the first 30 more, the second up to its 5
        outs(x, 79, 5);
        Due.is("SPARE", x.nodeTold(0, 4), 400 - 79);
        x.deed(DIM, l);
        x.run(1);
        // 28 and 38: what is too much comes off the first
        outs(x, 61, 5);
    }

    /** "(all OUT less DEMAND) times 10 by all WEIGHTS that are ON (cut)" */
    private static void swingIsCut() {
        // weight, load, SWING: 30 put out, double the load drawn; the fourth is cut too
        int[][] due = {{20, 15, 0}, {21, 16, 0}, {20, 16, -1}, {19, 16, -1}, {10, 16, -2}, {40, 17, -1}, {41, 17, 0},
            {99, 19, 0}, {79, 19, -1}, {80, 19, -1}, {81, 19, 0}};
        for (int[] of : due) {
            DarkLand x = land(1, of[0]);
            load(x, 0, of[1]);
            x.run(1);
            Due.is("SWING by weight " + of[0] + ", load " + of[1], x.nodeTold(0, 2), of[2]);
        }
        // all weights that are on, and no others
        DarkLand x = land(2, 7);
        x.plant(3, 0, 1, 6);
        x.plant(1, 0, 1, 99);
        x.plant(1, 1, 1, 99);
        x.deed(START, 1);
        x.deed(START, 3);
        x.run(1);
        load(x, 0, 20);
        x.run(1);
        // 9 too little, by 13: -6, less a fourth
        Due.is("SWING", x.nodeTold(0, 2), -5);
    }

    /** "SWING becomes SWING and .." */
    private static void swingAddsUp() {
        DarkLand x = new DarkLand();
        x.node(0);
        x.plant(1, 0, 1, 10);
        x.deed(START, 0);
        x.run(1);
        load(x, 0, 3);
        // 1 put out; 6, 5, 5, 5, 4, 4, 4, 3 drawn
        int[] due = {-4, -6, -8, -9, -9, -9, -9, -9};
        int swing = 0;
        int[] lacks = {5, 4, 4, 4, 3, 3, 3, 2};
        for (int m = 0; m < due.length; m++) {
            x.run(1);
            swing = swing - lacks[m];
            swing = swing - swing / 4;
            Due.is("SWING behind " + m, x.nodeTold(0, 2), swing);
            Due.is("SWING behind " + m, swing, due[m]);
        }
    }

    /** "less a fourth of that (cut)", on either side of 0. */
    private static void fourthIsCut() {
        int[] low = {0, -2, -3, -5, -6, -8, -9, -11};
        for (int i = 0; i < low.length; i++) {
            DarkLand x = land(1, 10);
            load(x, 0, 15 + i);
            x.run(1);
            // 0, 2, 4 .. drawn too much
            Due.is("SWING of -" + 2 * i, x.nodeTold(0, 2), low[i]);
        }
        int[] weight = {96, 94, 70, 56, 46, 40, 35, 31, 28};
        int[] high = {2, 2, 3, 4, 5, 6, 6, 7, 8};
        for (int i = 0; i < weight.length; i++) {
            // 28 put out too much, by the weight: 2, 2, 4, 5, 6, 7, 8, 9, 10
            Due.is("SWING by weight " + weight[i], tooMuch(weight[i], 28, 0).nodeTold(0, 2), high[i]);
        }
    }

    /** A dam that follows down by 30 and still puts out so much (16 to 30) that nothing draws; a line of a charge. */
    private static DarkLand tooMuch(int weight, int more, int charge) {
        DarkLand x = land(2, weight);
        x.line(0, 1, charge, 0);
        int[] draws = {15, 15, 15, more - 15};
        for (int draw : draws) {
            load(x, 0, draw);
            x.run(11);
        }
        Due.is("OUT", x.plantTold(0, 2), more + 30);
        Due.is("level", x.nodeTold(0, 2), 0);
        for (int l = 0; l < 4; l++) {
            x.deed(DIM, l);
        }
        if (charge > 0) {
            x.deed(CLOSE, 0);
        }
        x.run(1);
        return x;
    }

    /** "VOLTS: CHARGES of all LINES closed there, less DEMAND by 10 (cut), less SOAK of PLANTS that are ON." */
    private static void volts() {
        int[][] due = {{1, 0}, {4, 0}, {5, 1}, {9, 1}, {10, 2}, {14, 2}, {15, 3}};
        for (int[] of : due) {
            DarkLand x = land(2, 99);
            load(x, 0, of[0]);
            x.run(1);
            Due.is("VOLTS by a draw of " + 2 * of[0], x.nodeTold(0, 3), -10 - of[1]);
        }
        DarkLand x = land(4, 99);
        x.line(0, 1, 11, 0);
        x.line(1, 0, 7, 0);
        x.line(1, 2, 5, 0);
        x.line(2, 3, 3, 0);
        x.plant(3, 2, 100, 10);
        x.plant(2, 2, 100, 10);
        x.deed(CLOSE, 0);
        x.run(1);
        Due.is("one line", x.nodeTold(1, 3), 1);
        x.deed(CLOSE, 1);
        x.run(1);
        Due.is("two beside each other", x.nodeTold(0, 3), 8);
        x.deed(CLOSE, 2);
        x.deed(START, 1);
        x.deed(START, 2);
        x.run(1);
        // the steam still warms: its NEED of 12 is drawn
        Due.is("SOAK of a dam and a pumped", x.nodeTold(2, 3), 23 - 1 - 10 - 30);
        Due.is("SOAK and its sign", x.nodeTold(0, 3), -18);
        Due.is("the dark", x.nodeTold(3, 3), 0);
        x.run(4);
        Due.is("SOAK of the steam", x.nodeTold(2, 3), 23 - 10 - 30 - 10);
    }

    /** "SPARE: MOST less OUT of those." */
    private static void spare() {
        DarkLand x = land(2, 99);
        x.plant(1, 0, 77, 10);
        x.plant(2, 0, 500, 10);
        x.plant(1, 1, 999, 10);
        x.deed(START, 3);
        x.run(1);
        Due.is("of one", x.nodeTold(0, 4), 400);
        Due.is("of another", x.nodeTold(1, 4), 999);
        x.deed(START, 1);
        load(x, 0, 20);
        x.run(1);
        Due.is("of two", x.nodeTold(0, 4), 477 - 40);
        x.deed(START, 2);
        x.run(1);
        // 38 and the steam's NEED of 52
        Due.is("not of what warms", x.nodeTold(0, 4), 477 - 90);
    }

    private static void fell(DarkLand x, int minute, int node, int why) {
        boolean falls = why > 0;
        Due.is("FALLS", x.count(10), falls ? 1 : 0);
        int[] due = {minute, node, why};
        for (int what = 0; what < 3; what++) {
            Due.is("fall(0, " + what + ")", x.fall(0, what), falls ? due[what] : NONE);
        }
        Due.is("the plant", x.plantTold(0, 1), falls ? 0 : 2);
        Due.is("LIT", x.nodeTold(node, 0), falls ? 0 : 1);
    }

    /** "It FALLS, if SWING is below -20 (why 1)" */
    private static void fallsBelow() {
        for (int draw = 28; draw < 30; draw++) {
            DarkLand x = land(1, 10);
            load(x, 0, draw);
            x.run(1);
            // -26 less a fourth is -20, -28 less a fourth -21
            fell(x, 1, 0, draw == 28 ? 0 : 1);
            Due.is("SWING", x.nodeTold(0, 2), draw == 28 ? -20 : 0);
        }
    }

    /** "else if it is above 20 (2)" */
    private static void fallsAbove() {
        for (int more = 26; more < 28; more++) {
            DarkLand x = tooMuch(10, more, 0);
            Due.is("it puts out less by its ramp", x.plantTold(0, 2), more == 26 ? 26 : 0);
            // 26 less a fourth is 20, 27 less a fourth 21
            fell(x, x.count(0) - 1, 0, more == 26 ? 0 : 2);
            Due.is("SWING", x.nodeTold(0, 2), more == 26 ? 20 : 0);
        }
    }

    /** "else if VOLTS are above 50 (3)" */
    private static void fallsByVolts() {
        for (int charge = 60; charge < 62; charge++) {
            DarkLand x = land(2, 10);
            x.line(1, 0, charge, 0);
            x.deed(CLOSE, 0);
            x.run(1);
            fell(x, 1, 0, charge == 60 ? 0 : 3);
            Due.is("VOLTS", x.nodeTold(1, 3), charge == 60 ? 50 : 0);
        }
        for (int draw = 4; draw < 6; draw++) {
            DarkLand x = land(2, 99);
            x.line(1, 0, 61, 0);
            x.deed(CLOSE, 0);
            load(x, 1, draw);
            x.run(1);
            // 8 or 10 drawn, of which by 10 (cut) 0 or 1
            fell(x, 1, 0, draw == 4 ? 3 : 0);
        }
    }

    /** "(why 1), else .. (2), else .. (3)" */
    private static void whyIsTheFirst() {
        DarkLand x = land(2, 10);
        x.line(0, 1, 99, 0);
        x.deed(CLOSE, 0);
        load(x, 0, 29);
        x.run(1);
        // SWING -21, VOLTS 99 less 5 less 10
        fell(x, 1, 0, 1);
        DarkLand y = tooMuch(10, 27, 99);
        fell(y, y.count(0) - 1, 0, 2);
    }

    /** "ISLANDS that are LIT, by their least NODES": so their FALLS are told, whatever numbers plants and lines have. */
    private static void fallsByTheirLeastNodes() {
        DarkLand x = new DarkLand();
        for (int n = 0; n < 7; n++) {
            x.node(0);
        }
        int[] at = {6, 2, 5, 0};
        int[][] lines = {{6, 1}, {2, 3}, {5, 4}};
        for (int p = 0; p < 4; p++) {
            x.plant(1, at[p], 100, 10);
            x.deed(START, p);
            load(x, at[p], p == 3 ? 1 : 50);
        }
        for (int p = 0; p < 4; p++) {
            x.deed(DIM, p);
        }
        x.run(1);
        for (int l = 0; l < 3; l++) {
            x.line(lines[l][0], lines[l][1], 0, 0);
            Due.is("CLOSE", x.deed(CLOSE, l), 1);
        }
        for (int p = 0; p < 4; p++) {
            x.deed(LIGHT, p);
        }
        x.run(1);
        int[] node = {1, 2, 4};
        Due.is("FALLS", x.count(10), 3);
        for (int i = 0; i < 3; i++) {
            Due.is("its minute", x.fall(i, 0), 1);
            Due.is("its NODE", x.fall(i, 1), node[i]);
            Due.is("why", x.fall(i, 2), 1);
        }
        Due.is("what does not fall", x.plantTold(3, 1), 2);
    }

    /** What falls takes nothing with it of other ISLANDS. */
    private static void fallOfAnIslandAlone() {
        DarkLand x = land(4, 10);
        x.plant(1, 1, 100, 10);
        x.line(0, 2, 5, 0);
        x.line(1, 3, 5, 0);
        x.deed(START, 1);
        x.run(1);
        x.deed(CLOSE, 0);
        x.deed(CLOSE, 1);
        load(x, 1, 5);
        load(x, 0, 90);
        x.run(1);
        Due.is("FALLS", x.count(10), 1);
        Due.is("the one", x.plantTold(0, 1), 0);
        Due.is("the other", x.plantTold(1, 1), 2);
        Due.is("OUT of the other", x.plantTold(1, 2), 10);
        Due.is("FELL of the other", x.plantTold(1, 4), 0);
        Due.is("line of the one", x.lineTold(0), 0);
        Due.is("line of the other", x.lineTold(1), 1);
        Due.is("the other's load", x.loadTold(0, 1), 1);
        Due.is("VOLTS of the other", x.nodeTold(3, 3), 5 - 1 - 10);
    }

    /** "its PLANTS that aren't OFF are OFF (OUT, WARMED 0, FELL t)" */
    private static void fallStopsWhatIsNotOff() {
        DarkLand x = land(2, 10);
        x.plant(4, 0, 100, 10);
        x.plant(1, 1, 100, 10);
        x.plant(1, 0, 100, 10);
        x.line(0, 1, 0, 0);
        x.deed(START, 3);
        x.deed(STOP, 3);
        x.run(1);
        x.deed(START, 1);
        x.deed(START, 2);
        x.deed(CLOSE, 0);
        x.run(2);
        Due.is("WARMED", x.plantTold(1, 3), 2);
        Due.is("ON", x.plantTold(2, 1), 2);
        load(x, 1, 200);
        x.run(1);
        Due.is("why", x.fall(0, 2), 1);
        for (int p = 0; p < 4; p++) {
            Due.is("OFF: " + p, x.plantTold(p, 1), 0);
            Due.is("OUT of " + p, x.plantTold(p, 2), 0);
            Due.is("WARMED of " + p, x.plantTold(p, 3), 0);
            Due.is("FELL of " + p + ", that of what was off stays", x.plantTold(p, 4), p == 3 ? 1 : 4);
        }
    }

    /** "its LINES open": all that are closed there, manual ones too; others stay closed. */
    private static void fallOpensItsLines() {
        DarkLand x = land(4, 10);
        x.crew(0);
        x.line(0, 1, 1, 1);
        x.line(2, 1, 1, 0);
        x.line(0, 2, 1, 0);
        x.line(3, 0, 1, 0);
        x.deed(CLOSE, 0);
        x.deed(CLOSE, 1);
        x.deed(CLOSE, 2);
        load(x, 2, 200);
        x.run(1);
        for (int l = 0; l < 4; l++) {
            Due.is("lineTold(" + l + ")", x.lineTold(l), 0);
        }
        for (int n = 0; n < 4; n++) {
            Due.is("its own island", x.nodeTold(n, 1), n);
            Due.is("dark", x.nodeTold(n, 0), 0);
        }
        // a line that is closed in the dark is in no island that falls
        DarkLand y = land(4, 10);
        y.line(0, 1, 1, 0);
        y.line(1, 2, 1, 0);
        y.deed(CLOSE, 0);
        y.deed(CLOSE, 1);
        y.deed(OPEN, 0);
        load(y, 0, 200);
        y.run(1);
        Due.is("FALLS", y.count(10), 1);
        Due.is("closed in the dark", y.lineTold(1), 1);
        Due.is("its island", y.nodeTold(2, 1), 1);
    }

    /** "the first 20, more are counted" */
    private static void firstTwentyFalls() {
        DarkLand x = new DarkLand();
        x.node(0);
        x.plant(1, 0, 100, 1);
        load(x, 0, 90);
        for (int i = 0; i < 23; i++) {
            x.deed(START, 0);
            x.run(1 + i % 2);
            Due.is("count(10)", x.count(10), i + 1);
        }
        for (int i = 0; i < 23; i++) {
            Due.is("minute of " + i, x.fall(i, 0), i < 20 ? i + i / 2 : NONE);
            Due.is("node of " + i, x.fall(i, 1), i < 20 ? 0 : NONE);
            Due.is("why of " + i, x.fall(i, 2), i < 20 ? 1 : NONE);
            Due.is("bad of " + i, x.fall(i, 3), i < 20 ? DarkLand.BAD : NONE);
        }
    }

    /** "(5) ISLANDS anew. LOADS: one that is on, its NODE LIT, is lit": not in the minute of its fall. */
    private static void loadsAreDarkInTheirFall() {
        DarkLand x = land(1, 10);
        load(x, 0, 5);
        x.run(2);
        Due.is("SERVED", x.loadTold(0, 3), 2);
        load(x, 0, 200);
        x.run(1);
        Due.is("SERVED", x.loadTold(0, 3), 2);
        Due.is("DARK", x.loadTold(0, 4), 1);
        Due.is("lit in the minute before", x.loadTold(0, 1), 0);
        Due.is("on still", x.loadTold(0, 0), 1);
        Due.is("ISLAND LIT", x.nodeTold(0, 0), 0);
    }

    /** "SERVED 1 more; else DARK 1 more" */
    private static void servedAndDark() {
        DarkLand x = land(2, 99);
        x.load(0, 1, 0);
        load(x, 0, 1);
        load(x, 1, 1);
        x.load(1, 1, 0);
        x.run(7);
        for (int l = 0; l < 4; l++) {
            Due.is("SERVED of " + l, x.loadTold(l, 3), l == 1 ? 7 : 0);
            Due.is("DARK of " + l, x.loadTold(l, 4), l == 1 ? 0 : 7);
        }
        x.deed(DIM, 1);
        x.run(1);
        Due.is("SERVED stays", x.loadTold(1, 3), 7);
        Due.is("DARK", x.loadTold(1, 4), 1);
    }

    /** "(6) HELD of a NODE that is LIT: 1 more" */
    private static void heldOfTheLit() {
        DarkLand x = land(3, 10);
        x.line(0, 1, 0, 0);
        x.run(4);
        Due.is("HELD", x.nodeTold(0, 5), 5);
        x.deed(CLOSE, 0);
        Due.is("HELD of what was dark", x.nodeTold(1, 5), 0);
        x.run(1);
        Due.is("HELD", x.nodeTold(0, 5), 6);
        Due.is("HELD, of each NODE by itself", x.nodeTold(1, 5), 1);
        x.deed(OPEN, 0);
        x.deed(CLOSE, 0);
        x.run(1);
        Due.is("HELD through an OPEN and a CLOSE", x.nodeTold(1, 5), 2);
        x.deed(STOP, 0);
        x.deed(START, 0);
        x.run(1);
        Due.is("HELD through a STOP and a START", x.nodeTold(0, 5), 8);
        Due.is("HELD of the dark", x.nodeTold(2, 5), 0);
    }

    /** "of others 0, as their SWING, VOLTS, SPARE" */
    private static void nothingOfTheDark() {
        DarkLand x = land(2, 20);
        x.line(0, 1, 30, 0);
        x.deed(CLOSE, 0);
        load(x, 0, 20);
        x.run(1);
        int[] due = {1, 0, -4, 16, 370, 1};
        for (int what = 0; what < 6; what++) {
            Due.is("nodeTold(1, " + what + ")", x.nodeTold(1, what), due[what]);
        }
        x.deed(OPEN, 0);
        int[] opened = {0, 1, -4, 16, 370, 1};
        for (int what = 0; what < 6; what++) {
            Due.is("nodeTold(1, " + what + ") till the minute", x.nodeTold(1, what), opened[what]);
        }
        x.run(1);
        int[] dark = {0, 1, 0, 0, 0, 0};
        for (int what = 0; what < 6; what++) {
            Due.is("nodeTold(1, " + what + ") of the dark", x.nodeTold(1, what), dark[what]);
        }
        int room = x.room(1, 0);
        for (int what = 0; what < 4; what++) {
            Due.is("kept as it was, " + what, x.sees(room, 1, what, 1), new int[] {1, -4, 16, 1}[what]);
            Due.is("kept of the dark, " + what, x.sees(room, 2, what, 1), 0);
        }
    }

    /** "What is LIT (1, 0), SWING, VOLTS, HELD of each NODE is kept for 32 minutes", of which 31 are seen. */
    private static void keptForThirtyOne() {
        for (int at : new int[] {1, 31, 32, 33, 63, 64, 65, 100}) {
            DarkLand x = land(1, 10);
            x.room(0, 0);
            if (at > 1) {
                x.run(at - 1);
            }
            for (int minute = at - 40; minute <= at + 1; minute++) {
                boolean kept = minute >= 0 && minute < at && minute >= at - 31;
                Due.is("LIT of " + minute + " at " + at, x.sees(0, minute, 0, 1), kept ? 1 : DarkLand.NO);
                Due.is("HELD of " + minute + " at " + at, x.sees(0, minute, 3, 1), kept ? minute + 1 : DarkLand.NO);
            }
        }
    }

    /** 14 NODES in a row, 20 LINES, 8 PLANTS, 12 LOADS, 4 CREWS, 4 ROOMS, 20 signs, 6 TEXTS, 16 ORDERS, all in use. */
    private static void aLandThatIsFull() {
        DarkLand x = new DarkLand();
        for (int n = 0; n < 14; n++) {
            Due.is("node", x.node(n), n);
        }
        for (int l = 0; l < 20; l++) {
            Due.is("line", l < 13 ? x.line(l, l + 1, 10, 0) : x.line(13, l - 13, 20, 1), l);
        }
        for (int p = 0; p < 8; p++) {
            Due.is("plant", x.plant(3, 13 - p, 999, 99), p);
            x.deed(START, p);
        }
        for (int l = 0; l < 12; l++) {
            Due.is("load", x.load(l + 2, 9, l % 10), l);
        }
        for (int i = 0; i < 4; i++) {
            Due.is("crew", x.crew(12), i);
            Due.is("room", x.room(13 - i, 10 * i), i);
        }
        for (int f = 0; f < 20; f++) {
            Due.is("sign", x.falseSign(f % 4, 200 + f, 3, f), f);
        }
        for (int i = 1; i < 6; i++) {
            Due.is("text", Tape.read(x, "when minute = " + 10 * i + ";"), i);
        }
        for (int k = 0; k < 16; k++) {
            Due.is("order", x.order(k % 4, k < 12 ? 1 : 2 + k % 4, k < 12 ? LIGHT : DIM, k < 12 ? k : k - 12), k);
        }
        x.run(1);
        for (int c = 0; c < 4; c++) {
            Due.is("go", x.go(c, 13), 1);
        }
        x.run(1);
        for (int l = 19; l >= 0; l--) {
            Due.is("CLOSE", x.deed(CLOSE, l), 1);
        }
        for (int n = 0; n < 14; n++) {
            Due.is("ISLAND", x.nodeTold(n, 1), 0);
            Due.is("LIT", x.nodeTold(n, 0), 1);
        }
        x.run(9);
        for (int l = 0; l < 12; l++) {
            Due.is("SERVED from minute 10 on", x.loadTold(l, 3), 1);
        }
        // 12 loads of 18 drawn, that the first five follow
        for (int p = 0; p < 8; p++) {
            Due.is("OUT", x.plantTold(p, 2), p < 4 ? 50 : p == 4 ? 16 : 0);
        }
        for (int n = 0; n < 14; n++) {
            Due.is("SWING", x.nodeTold(n, 2), 0);
            Due.is("VOLTS", x.nodeTold(n, 3), 130 + 140 - 21 - 8 * 30);
            Due.is("SPARE", x.nodeTold(n, 4), 8 * 999 - 216);
            Due.is("HELD", x.nodeTold(n, 5), n > 5 ? 11 : 9);
        }
        x.run(60);
        for (int k = 0; k < 16; k++) {
            Due.is("ordered", x.ordered(k), 1);
        }
        for (int room = 0; room < 4; room++) {
            for (int minute = 40; minute < 71; minute++) {
                Due.is("HELD of " + minute, x.sees(room, minute, 3, 1), minute + 1);
            }
            Due.is("when", x.when(room, 0), 1);
        }
        Due.is("beside", x.beside(100, 0), 8);
        Due.is("no FALL", x.count(10), 0);
        x.deed(STOP, 6);
        x.deed(STOP, 7);
        x.run(1);
        // 72 drawn, and SOAK but of six
        int[] fall = {71, 0, 3};
        for (int what = 0; what < 3; what++) {
            Due.is("the FALL of all", x.fall(0, what), fall[what]);
        }
        for (int l = 0; l < 20; l++) {
            Due.is("open: " + l, x.lineTold(l), 0);
        }
        for (int p = 0; p < 8; p++) {
            Due.is("OFF: " + p, x.plantTold(p, 1), 0);
        }
    }
}
