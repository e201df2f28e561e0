import java.util.function.Consumer;

/** Terms 2 and promises 9 to 12, a test for each sentence that names a boundary. */
public final class EdgesOfDeedsTest {
    private static final int BAD = DarkLand.BAD, NONE = DarkLand.NONE, FULL = DarkLand.FULL, STATE = DarkLand.STATE;
    private static final int LEAST = Integer.MIN_VALUE, MOST = Integer.MAX_VALUE;
    private static final int CLOSE = 0, OPEN = 1, START = 2, STOP = 3, LIGHT = 4, DIM = 5;

    public static void main(String[] args) {
        deedsThatAreNone();
        ofWhatThereIsNone();
        mayOfNone();
        closeIsOfAnOpenLine();
        closeWantsACrew();
        closeWantsACrewAtOneOfItsEnds();
        closeWantsOneEndLit();
        closeOfSwingsApart();
        closeOfSwingsApartBothWays();
        closeWithinAnIsland();
        closeToTheDark();
        swingOfBoth();
        swingOfBothIsByWhatIsOn();
        swingOfAllNodesOfBoth();
        openIsOfAClosedLine();
        openWantsACrew();
        startIsOfAPlantThatIsOff();
        startAloneOrLit();
        startWarmsFromZero();
        stopIsOfAPlantThatIsNotOff();
        stopLeavesNothing();
        lightIsOfALoadThatIsOff();
        dimIsOfALoadThatIsOn();
        islandsAtOnce();
        crewsGoAsFarAsTheirXAreApart();
        crewsAreThereAtOnce();
        goOfNone();
        goOnItsWay();
        minutesOfARun();
        minuteIsSixHundredAtMost();
        Due.end();
    }

    /** Four nodes at x 0, a dam of a weight that is on at node 0 from minute 1 on. */
    private static DarkLand land(int weight) {
        DarkLand x = new DarkLand();
        for (int n = 0; n < 4; n++) {
            x.node(0);
        }
        x.plant(1, 0, 400, weight);
        x.deed(START, 0);
        x.run(1);
        return x;
    }

    private static int load(DarkLand x, int node, int draw) {
        int l = x.load(node, draw, 0);
        Due.is("LIGHT", x.deed(LIGHT, l), 1);
        return l;
    }

    /** "BAD: DEED", told ahead of "NONE: of what". */
    private static void deedsThatAreNone() {
        for (int deed : new int[] {-1, 6, LEAST, MOST}) {
            Twins.refuses("deed(" + deed + ", 0)", x -> x.deed(deed, 0), BAD);
            Twins.refuses("deed(" + deed + ", -1): BAD ahead of NONE", x -> x.deed(deed, -1), BAD);
            Twins.refuses("deed(" + deed + ", 99): BAD ahead of NONE", x -> x.deed(deed, 99), BAD);
        }
    }

    /** "NONE: of what", told ahead of STATE. In the land of Twins there are 3 LINES, 3 PLANTS, 3 LOADS. */
    private static void ofWhatThereIsNone() {
        for (int deed = 0; deed < 6; deed++) {
            int d = deed;
            for (int what : new int[] {-1, 3, LEAST, MOST}) {
                Twins.refuses("deed(" + d + ", " + what + ")", x -> x.deed(d, what), NONE);
            }
            DarkLand y = new DarkLand();
            y.node(0);
            y.node(0);
            int lines = deed < 2 ? 20 : 1;
            int plants = deed == START || deed == STOP ? 8 : 1;
            int loads = deed > STOP ? 12 : 1;
            for (int i = 0; i < 20; i++) {
                if (i < lines) {
                    y.line(0, 1, 0, 0);
                }
                if (i < plants) {
                    y.plant(1, 0, 9, 9);
                }
                if (i < loads) {
                    y.load(0, 9, 9);
                }
            }
            int last = Math.max(lines, Math.max(plants, loads)) - 1;
            Due.holds("the last is one", y.deed(deed, last) != NONE);
            Due.is("one more is none", y.deed(deed, last + 1), NONE);
        }
    }

    /** "Whether a LINE may be closed (1, 0). NONE." */
    private static void mayOfNone() {
        for (int line : new int[] {-1, 3, LEAST, MOST}) {
            Twins.refuses("may(" + line + ")", x -> x.may(line), NONE);
        }
        Twins.looks("may(0) of a closed line", x -> x.may(0), 0);
        Twins.looks("may(1) of a manual line, a crew on its way", x -> x.may(1), 0);
        Twins.looks("may(2) of a dark line", x -> x.may(2), 0);
        DarkLand x = land(10);
        x.line(0, 1, 0, 0);
        Due.is("may(0)", x.may(0), 1);
        Due.is("it is not closed by that", x.lineTold(0), 0);
        Due.is("nor is node 1 lit", x.nodeTold(1, 0), 0);
        Due.is("CLOSE", x.deed(CLOSE, 0), 1);
        Due.is("may(0) of a closed line", x.may(0), 0);
    }

    /** "0 CLOSE a LINE: it is open" */
    private static void closeIsOfAnOpenLine() {
        Twins.refuses("CLOSE of a closed line", x -> x.deed(CLOSE, 0), STATE);
        DarkLand x = land(10);
        x.line(0, 1, 0, 0);
        Due.is("CLOSE", x.deed(CLOSE, 0), 1);
        Due.is("lineTold(0)", x.lineTold(0), 1);
        Due.is("CLOSE again", x.deed(CLOSE, 0), STATE);
        Due.is("OPEN", x.deed(OPEN, 0), 1);
        Due.is("lineTold(0)", x.lineTold(0), 0);
        Due.is("CLOSE anew", x.deed(CLOSE, 0), 1);
    }

    /** "if it is MANUAL a CREW that isn't on its way": at an end it is from, or on its last minute to it. */
    private static void closeWantsACrew() {
        Twins.refuses("CLOSE of a manual line, the crew on its way from it", x -> x.deed(CLOSE, 1), STATE);
        DarkLand x = new DarkLand();
        x.node(0);
        x.node(5);
        x.node(8);
        x.plant(1, 0, 100, 10);
        x.line(0, 1, 0, 1);
        x.line(1, 0, 0, 0);
        x.deed(START, 0);
        x.run(1);
        Due.is("none at all", x.deed(CLOSE, 0), STATE);
        Due.is("a line that isn't manual needs none", x.may(1), 1);
        x.crew(2);
        Due.is("none at an end", x.deed(CLOSE, 0), STATE);
        x.go(0, 1);
        x.run(2);
        Due.is("a minute short", x.deed(CLOSE, 0), STATE);
        x.run(1);
        Due.is("there", x.may(0), 1);
        x.go(0, 0);
        Due.is("on its way from there", x.deed(CLOSE, 0), STATE);
        x.run(4);
        Due.is("a minute short of the other end", x.deed(CLOSE, 0), STATE);
        x.run(1);
        Due.is("at the other end", x.deed(CLOSE, 0), 1);
    }

    /** "is at one of its ends": at either, whatever its number, and not at a NODE of a like x or of the same ISLAND. */
    private static void closeWantsACrewAtOneOfItsEnds() {
        for (int at = 0; at < 4; at++) {
            DarkLand x = land(10);
            x.line(0, 3, 0, 0);
            x.line(1, 0, 0, 1);
            x.deed(CLOSE, 0);
            x.crew(2);
            x.crew(2);
            x.crew(2);
            x.crew(at);
            Due.is("a crew at " + at, x.may(1), at < 2 ? 1 : 0);
            Due.is("CLOSE", x.deed(CLOSE, 1), at < 2 ? 1 : STATE);
        }
    }

    /** "one end at least is LIT" */
    private static void closeWantsOneEndLit() {
        Twins.refuses("CLOSE between dark ends", x -> x.deed(CLOSE, 2), STATE);
        DarkLand x = land(10);
        x.line(1, 2, 0, 0);
        x.line(1, 0, 0, 0);
        x.line(0, 3, 0, 0);
        Due.is("none lit", x.deed(CLOSE, 0), STATE);
        Due.is("the second lit", x.deed(CLOSE, 1), 1);
        Due.is("the first lit", x.deed(CLOSE, 2), 1);
        Due.is("now it is lit", x.deed(CLOSE, 0), 1);
        x.deed(STOP, 0);
        x.deed(OPEN, 0);
        Due.is("dark by a STOP", x.deed(CLOSE, 0), STATE);
    }

    /** A dam at node 0 with a swing below 0, one at node 1 with a swing of 0 and of a weight, a line. */
    private static DarkLand apart(int draw, int weight, boolean turned) {
        DarkLand x = land(20);
        x.plant(1, 1, 400, weight);
        x.line(turned ? 1 : 0, turned ? 0 : 1, 0, 0);
        x.deed(START, 1);
        x.run(1);
        load(x, 0, draw);
        x.run(1);
        return x;
    }

    /** "if both are, and not of one ISLAND, their SWINGS are at most 3 apart": 38 or 40 are drawn, 30 put out. */
    private static void closeOfSwingsApart() {
        for (int turned = 0; turned < 2; turned++) {
            DarkLand x = apart(19, 5, turned == 1);
            Due.is("SWING", x.nodeTold(0, 2), -3);
            Due.is("3 apart", x.may(0), 1);
            Due.is("3 apart", x.deed(CLOSE, 0), 1);
            DarkLand y = apart(20, 5, turned == 1);
            Due.is("SWING", y.nodeTold(0, 2), -4);
            Due.is("4 apart", y.may(0), 0);
            Due.is("4 apart", y.deed(CLOSE, 0), STATE);
            Due.is("SWING stays", y.nodeTold(0, 2), -4);
            Due.is("SWING of the other stays", y.nodeTold(1, 2), 0);
            Due.is("node 1 stays an island", y.nodeTold(1, 1), 1);
        }
    }

    /** A dam at node 0 that swings up, as 28 of 58 that it puts out can't go at once. */
    private static DarkLand swungUp(int weight, int otherLoad) {
        DarkLand x = land(weight);
        x.plant(1, 1, 400, 99);
        x.line(0, 1, 0, 0);
        x.deed(START, 1);
        int a = load(x, 0, 15);
        x.run(1);
        int b = load(x, 0, 15);
        x.run(1);
        Due.is("58 put out", x.plantTold(0, 2), 58);
        Due.is("level", x.nodeTold(0, 2), 0);
        x.deed(DIM, a);
        x.deed(DIM, b);
        if (otherLoad > 0) {
            load(x, 1, otherLoad);
        }
        x.run(1);
        return x;
    }

    /** The same, of a SWING above the other's, and of SWINGS on both sides of 0. */
    private static void closeOfSwingsApartBothWays() {
        DarkLand x = swungUp(70, 0);
        Due.is("SWING", x.nodeTold(0, 2), 3);
        Due.is("3 above", x.may(0), 1);
        x = swungUp(56, 0);
        Due.is("SWING", x.nodeTold(0, 2), 4);
        Due.is("4 above", x.may(0), 0);
        x = swungUp(70, 20);
        Due.is("SWING", x.nodeTold(0, 2), 3);
        Due.is("SWING of the other", x.nodeTold(1, 2), -1);
        Due.is("3 and -1", x.may(0), 0);
        x = swungUp(99, 20);
        Due.is("SWING", x.nodeTold(0, 2), 2);
        Due.is("SWING of the other", x.nodeTold(1, 2), -1);
        Due.is("2 and -1", x.may(0), 1);
        DarkLand y = apart(20, 99, false);
        load(y, 1, 20);
        y.run(1);
        // 38 drawn, 30 + 8 put out: -4 becomes -3; the other's 40 drawn, 30 put out: -1
        Due.is("SWING", y.nodeTold(0, 2), -3);
        Due.is("SWING of the other", y.nodeTold(1, 2), -1);
        Due.is("-3 and -1", y.deed(CLOSE, 0), 1);
        // -3 times 20 and -1 times 99 by 119
        Due.is("SWING of both", y.nodeTold(1, 2), -1);
    }

    /** Within one ISLAND how it swings does not matter, and SWING stays. */
    private static void closeWithinAnIsland() {
        DarkLand x = land(20);
        x.line(0, 1, 0, 0);
        x.line(1, 0, 0, 0);
        x.line(1, 2, 0, 0);
        x.line(2, 0, 0, 0);
        x.deed(CLOSE, 0);
        x.deed(CLOSE, 2);
        load(x, 0, 40);
        x.run(1);
        // 80 drawn, 30 put out: -25, less a fourth
        Due.is("SWING", x.nodeTold(0, 2), -19);
        Due.is("beside another", x.deed(CLOSE, 1), 1);
        Due.is("a ring", x.deed(CLOSE, 3), 1);
        for (int n = 0; n < 3; n++) {
            Due.is("SWING", x.nodeTold(n, 2), -19);
        }
    }

    /** With one end dark SWINGS need not be near; the dark end's becomes the other's. */
    private static void closeToTheDark() {
        for (int turned = 0; turned < 2; turned++) {
            DarkLand x = land(20);
            x.line(turned, 1 - turned, 0, 0);
            load(x, 0, 40);
            x.run(1);
            Due.is("SWING", x.nodeTold(0, 2), -19);
            Due.is("SWING of the dark", x.nodeTold(1, 2), 0);
            Due.is("CLOSE", x.deed(CLOSE, 0), 1);
            Due.is("SWING", x.nodeTold(0, 2), -19);
            Due.is("SWING of what was dark", x.nodeTold(1, 2), -19);
            Due.is("HELD till the minute", x.nodeTold(1, 5), 0);
        }
    }

    /** "each one's times the WEIGHTS ... together, by all these WEIGHTS (cut)" */
    private static void swingOfBoth() {
        int[] weights = {5, 10, 20, 40, 41, 99};
        int[] swing = {-2, -2, -1, -1, 0, 0};
        for (int i = 0; i < weights.length; i++) {
            for (int turned = 0; turned < 2; turned++) {
                // -3 times 20, by 20 and the other's
                DarkLand x = apart(19, weights[i], turned == 1);
                x.deed(CLOSE, 0);
                Due.is("SWING by " + weights[i], x.nodeTold(0, 2), swing[i]);
                Due.is("SWING by " + weights[i], x.nodeTold(1, 2), swing[i]);
            }
        }
        DarkLand x = swungUp(70, 0);
        x.deed(CLOSE, 0);
        // 3 times 70 by 169
        Due.is("SWING cut", x.nodeTold(0, 2), 1);
        x = swungUp(99, 20);
        x.deed(CLOSE, 0);
        // 2 times 99 and -1 times 99, by 198
        Due.is("SWING cut", x.nodeTold(1, 2), 0);
    }

    /** "of its PLANTS that are ON": not of those that warm, are off, or stand elsewhere; of several all. */
    private static void swingOfBothIsByWhatIsOn() {
        DarkLand x = apart(19, 20, false);
        x.plant(1, 0, 100, 99);
        x.plant(1, 1, 100, 99);
        x.plant(1, 2, 100, 99);
        x.deed(START, 3);
        x.deed(CLOSE, 0);
        Due.is("-3 times 20 by 40", x.nodeTold(0, 2), -1);
        DarkLand y = land(20);
        y.plant(1, 1, 400, 30);
        y.plant(3, 1, 400, 11);
        y.line(0, 1, 0, 0);
        y.deed(START, 1);
        y.deed(START, 2);
        y.run(1);
        load(y, 0, 19);
        y.run(1);
        Due.is("SWING", y.nodeTold(0, 2), -3);
        y.deed(CLOSE, 0);
        Due.is("-3 times 20 by 61", y.nodeTold(0, 2), 0);
    }

    /** "SWING of all NODES of both becomes", and of no others. */
    private static void swingOfAllNodesOfBoth() {
        DarkLand x = land(20);
        x.node(0);
        x.plant(1, 1, 400, 10);
        x.plant(1, 2, 400, 99);
        x.deed(START, 1);
        x.deed(START, 2);
        x.run(1);
        x.line(0, 1, 0, 0);
        x.line(0, 3, 0, 0);
        x.line(1, 4, 0, 0);
        x.line(2, 0, 0, 0);
        x.deed(CLOSE, 1);
        x.deed(CLOSE, 2);
        load(x, 0, 20);
        load(x, 1, 16);
        load(x, 2, 20);
        x.run(1);
        swings(x, -4, -2, -1, -4, -2);
        Due.is("CLOSE", x.deed(CLOSE, 0), 1);
        // -4 times 20 and -2 times 10, by 30
        swings(x, -3, -3, -1, -3, -3);
        Due.is("CLOSE", x.deed(CLOSE, 3), 1);
        // -3 times 30 and -1 times 99, by 129
        swings(x, -1, -1, -1, -1, -1);
    }

    private static void swings(DarkLand x, int... due) {
        for (int n = 0; n < due.length; n++) {
            Due.is("SWING of " + n, x.nodeTold(n, 2), due[n]);
        }
    }

    /** "1 OPEN a LINE: it is closed" */
    private static void openIsOfAClosedLine() {
        Twins.refuses("OPEN of an open line", x -> x.deed(OPEN, 1), STATE);
        Twins.refuses("OPEN of a line that a fall has opened", x -> x.deed(OPEN, 2), STATE);
        DarkLand x = land(10);
        x.line(0, 1, 0, 0);
        x.deed(CLOSE, 0);
        x.deed(STOP, 0);
        Due.is("OPEN in the dark", x.deed(OPEN, 0), 1);
        Due.is("OPEN again", x.deed(OPEN, 0), STATE);
    }

    /** "a CREW likewise" */
    private static void openWantsACrew() {
        DarkLand x = new DarkLand();
        x.node(0);
        x.node(5);
        x.node(8);
        x.plant(1, 0, 100, 10);
        x.line(0, 1, 0, 1);
        x.deed(START, 0);
        x.crew(0);
        x.run(1);
        Due.is("CLOSE", x.deed(CLOSE, 0), 1);
        x.go(0, 2);
        Due.is("on its way from there", x.deed(OPEN, 0), STATE);
        x.run(8);
        Due.is("elsewhere", x.deed(OPEN, 0), STATE);
        x.go(0, 1);
        x.run(2);
        Due.is("a minute short", x.deed(OPEN, 0), STATE);
        x.run(1);
        Due.is("at the other end", x.deed(OPEN, 0), 1);
    }

    /** "2 START a PLANT: it is OFF" */
    private static void startIsOfAPlantThatIsOff() {
        Twins.refuses("START of what is on", x -> x.deed(START, 0), STATE);
        Consumer<DarkLand> started = x -> x.deed(START, 2);
        Twins.refusesBehind(started, "START of what warms", x -> x.deed(START, 2), STATE);
        DarkLand x = land(10);
        x.plant(4, 0, 100, 10);
        x.deed(START, 1);
        x.run(3);
        Due.is("START of what has warmed for 3", x.deed(START, 1), STATE);
        Due.is("WARMED stays", x.plantTold(1, 3), 3);
    }

    /** "and starts ALONE, or its NODE is LIT" */
    private static void startAloneOrLit() {
        Twins.refuses("START of a coal in the dark", x -> x.deed(START, 1), STATE);
        for (int kind = 0; kind < 6; kind++) {
            DarkLand x = land(10);
            x.plant(kind, 0, 100, 10);
            x.plant(kind, 1, 100, 10);
            x.line(0, 1, 0, 0);
            Due.is("kind " + kind + ", lit", x.deed(START, 1), 1);
            boolean alone = kind == 1 || kind == 3;
            Due.is("kind " + kind + ", dark", x.deed(START, 2), alone ? 1 : STATE);
            Due.is("its state", x.plantTold(2, 1), alone ? 1 : 0);
            x.deed(STOP, 2);
            x.deed(CLOSE, 0);
            Due.is("kind " + kind + ", lit from there", x.deed(START, 2), 1);
        }
    }

    /** "it is WARMING, WARMED 0" */
    private static void startWarmsFromZero() {
        DarkLand x = land(10);
        x.plant(0, 0, 100, 10);
        x.deed(START, 1);
        Due.is("WARMING", x.plantTold(1, 1), 1);
        Due.is("WARMED", x.plantTold(1, 3), 0);
        x.run(4);
        Due.is("WARMED", x.plantTold(1, 3), 4);
        x.deed(STOP, 1);
        x.deed(START, 1);
        Due.is("WARMED anew", x.plantTold(1, 3), 0);
        x.run(4);
        Due.is("WARMING", x.plantTold(1, 1), 1);
        x.run(1);
        Due.is("ON by five from then", x.plantTold(1, 1), 2);
    }

    /** "3 STOP a PLANT that isn't OFF" */
    private static void stopIsOfAPlantThatIsNotOff() {
        Twins.refuses("STOP of what is off", x -> x.deed(STOP, 1), STATE);
        Twins.refuses("STOP of what fell", x -> x.deed(STOP, 2), STATE);
        DarkLand x = land(10);
        Due.is("STOP of what is on", x.deed(STOP, 0), 1);
        Due.is("STOP again", x.deed(STOP, 0), STATE);
        x.deed(START, 0);
        Due.is("STOP of what warms", x.deed(STOP, 0), 1);
    }

    /** "it is OFF, OUT, WARMED 0, FELL now" */
    private static void stopLeavesNothing() {
        DarkLand x = land(10);
        load(x, 0, 10);
        x.run(6);
        Due.is("OUT", x.plantTold(0, 2), 15);
        Due.is("WARMED", x.plantTold(0, 3), 1);
        Due.is("FELL", x.plantTold(0, 4), 0);
        x.deed(STOP, 0);
        int[] due = {1, 0, 0, 0, 7};
        for (int what = 0; what < 5; what++) {
            Due.is("plantTold(0, " + what + ")", x.plantTold(0, what), due[what]);
        }
        x.deed(START, 0);
        x.run(1);
        Due.is("FELL stays as it is on anew", x.plantTold(0, 4), 7);
        x.deed(STOP, 0);
        Due.is("FELL anew", x.plantTold(0, 4), 8);
        DarkLand y = new DarkLand();
        y.node(0);
        y.plant(1, 0, 100, 10);
        y.deed(START, 0);
        y.deed(STOP, 0);
        Due.is("FELL in minute 0", y.plantTold(0, 4), 0);
    }

    /** "4 LIGHT a LOAD: it is off: on." */
    private static void lightIsOfALoadThatIsOff() {
        Twins.refuses("LIGHT of what is on", x -> x.deed(LIGHT, 0), STATE);
        Twins.refuses("LIGHT of what is on in the dark", x -> x.deed(LIGHT, 2), STATE);
        DarkLand x = land(10);
        x.load(1, 5, 0);
        Due.is("LIGHT in the dark", x.deed(LIGHT, 0), 1);
        Due.is("on", x.loadTold(0, 0), 1);
        x.run(1);
        Due.is("but not lit", x.loadTold(0, 1), 0);
        Due.is("LIGHT again", x.deed(LIGHT, 0), STATE);
    }

    /** "5 DIM a LOAD: it is on: off." */
    private static void dimIsOfALoadThatIsOn() {
        Twins.refuses("DIM of what is off", x -> x.deed(DIM, 1), STATE);
        DarkLand x = land(10);
        x.load(0, 5, 0);
        Due.is("DIM of what is off", x.deed(DIM, 0), STATE);
        x.deed(LIGHT, 0);
        Due.is("DIM", x.deed(DIM, 0), 1);
        Due.is("off", x.loadTold(0, 0), 0);
        x.run(1);
        Due.is("nothing is drawn", x.plantTold(0, 2), 0);
        Due.is("DIM again", x.deed(DIM, 0), STATE);
    }

    /** "ISLANDS, and whether they are LIT, are by that at once." */
    private static void islandsAtOnce() {
        DarkLand x = land(10);
        x.line(1, 0, 0, 0);
        x.line(2, 1, 0, 0);
        x.plant(2, 2, 100, 10);
        x.deed(CLOSE, 0);
        islands(x, 0, 0, 2, 3);
        lit(x, 1, 1, 0, 0);
        x.deed(CLOSE, 1);
        islands(x, 0, 0, 0, 3);
        lit(x, 1, 1, 1, 0);
        Due.is("START of what is lit now", x.deed(START, 1), 1);
        x.deed(OPEN, 0);
        islands(x, 0, 1, 1, 3);
        lit(x, 1, 0, 0, 0);
        Due.is("it is dark now", x.may(1) + x.deed(CLOSE, 1), STATE);
        Due.is("CLOSE anew", x.deed(CLOSE, 0), 1);
        islands(x, 0, 0, 0, 3);
        x.deed(STOP, 0);
        islands(x, 0, 0, 0, 3);
        lit(x, 0, 0, 0, 0);
        x.deed(START, 0);
        lit(x, 0, 0, 0, 0);
    }

    private static void islands(DarkLand x, int... due) {
        for (int n = 0; n < due.length; n++) {
            Due.is("ISLAND of " + n, x.nodeTold(n, 1), due[n]);
        }
    }

    private static void lit(DarkLand x, int... due) {
        for (int n = 0; n < due.length; n++) {
            Due.is("LIT " + n, x.nodeTold(n, 0), due[n]);
        }
    }

    /** "it is there behind as many minutes as their x are apart" */
    private static void crewsGoAsFarAsTheirXAreApart() {
        int[][] ways = {{0, 1}, {1, 0}, {0, 99}, {99, 0}, {40, 47}, {47, 40}};
        for (int[] way : ways) {
            DarkLand x = new DarkLand();
            x.node(way[0]);
            x.node(way[1]);
            x.crew(0);
            int far = Math.abs(way[0] - way[1]);
            Due.is("go", x.go(0, 1), far);
            Due.is("it still goes", x.crewTold(0, 1), far);
            Due.is("from where", x.crewTold(0, 0), 0);
            if (far > 1) {
                x.run(far - 1);
                Due.is("it still goes", x.crewTold(0, 1), 1);
                Due.is("from where", x.crewTold(0, 0), 0);
            }
            x.run(1);
            Due.is("it goes no more", x.crewTold(0, 1), 0);
            Due.is("it is there", x.crewTold(0, 0), 1);
            x.run(1);
            Due.is("it stays", x.crewTold(0, 0), 1);
            Due.is("it goes no more", x.crewTold(0, 1), 0);
            Due.is("and back", x.go(0, 0), far);
        }
    }

    /** "(at once, if that is 0)" */
    private static void crewsAreThereAtOnce() {
        DarkLand x = new DarkLand();
        x.node(7);
        x.node(8);
        x.node(7);
        x.crew(0);
        Due.is("go to where it is", x.go(0, 0), 0);
        Due.is("it is there", x.crewTold(0, 0), 0);
        Due.is("go to a like x", x.go(0, 2), 0);
        Due.is("it is there", x.crewTold(0, 0), 2);
        Due.is("it does not go", x.crewTold(0, 1), 0);
        Due.is("go on within the minute", x.go(0, 1), 1);
    }

    /** "NONE: CREW, NODE", told ahead of STATE. */
    private static void goOfNone() {
        for (int none : new int[] {-1, 4, LEAST, MOST}) {
            Twins.refuses("NODE " + none, x -> x.go(0, none), NONE);
            Twins.refuses("NODE " + none + " ahead of STATE", x -> x.go(1, none), NONE);
        }
        for (int none : new int[] {-1, 2, LEAST, MOST}) {
            Twins.refuses("CREW " + none, x -> x.go(none, 0), NONE);
        }
    }

    /** "STATE: it is on its way": to wherever, also to where it goes, and from where it goes. */
    private static void goOnItsWay() {
        for (int n = 0; n < 4; n++) {
            int node = n;
            Twins.refuses("go(1, " + n + ") on its way", x -> x.go(1, node), STATE);
        }
        DarkLand x = Twins.land();
        x.run(19);
        Due.is("a minute short", x.go(1, 2), STATE);
        x.run(1);
        Due.is("there", x.go(1, 2), 20);
    }

    /** "n minutes (1 .. 100): MINUTE. BAD" */
    private static void minutesOfARun() {
        for (int n : new int[] {0, -1, 101, LEAST, MOST}) {
            Twins.refuses("run(" + n + ")", x -> x.run(n), BAD);
        }
        Due.is("run(1)", Twins.land().run(1), 5);
        Due.is("run(100)", Twins.land().run(100), 104);
        DarkLand x = land(10);
        Due.is("one minute", x.run(1), 2);
        Due.is("HELD", x.nodeTold(0, 5), 2);
        Due.is("a hundred", x.run(100), 102);
        Due.is("HELD", x.nodeTold(0, 5), 102);
    }

    /** "MINUTE is .. 600 at most"; "FULL: beyond 600", behind BAD. */
    private static void minuteIsSixHundredAtMost() {
        Consumer<DarkLand> late = x -> {
            for (int i = 0; i < 5; i++) {
                x.run(100);
            }
            x.run(80);
        };
        Twins.refusesBehind(late, "run(17) at 584", x -> x.run(17), FULL);
        Twins.refusesBehind(late, "run(100) at 584", x -> x.run(100), FULL);
        Twins.refusesBehind(late, "BAD ahead of FULL", x -> x.run(101), BAD);
        Twins.refusesBehind(late.andThen(x -> x.run(16)), "run(1) at 600", x -> x.run(1), FULL);
        Twins.refusesBehind(late.andThen(x -> x.run(16)), "run(0) at 600", x -> x.run(0), BAD);
        DarkLand x = Twins.land();
        late.accept(x);
        Due.is("run(16)", x.run(16), 600);
        Due.is("count(0)", x.count(0), 600);
        Due.is("deeds at 600", x.deed(STOP, 0), 1);
        Due.is("FELL", x.plantTold(0, 4), 600);
    }
}
