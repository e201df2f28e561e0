import java.util.function.Consumer;
import java.util.function.IntFunction;
import java.util.function.ToLongFunction;

/** Promises 13 to 18, a test for each sentence that names a boundary; each look is shown to change nothing. */
public final class EdgesOfLooksTest {
    private static final int BAD = DarkLand.BAD, NONE = DarkLand.NONE;
    private static final int NO_NODE = -100000, NO_WHAT = -200000;
    private static final int LEAST = Integer.MIN_VALUE, MOST = Integer.MAX_VALUE;
    private static final int CLOSE = 0, START = 2, STOP = 3, LIGHT = 4, DIM = 5;

    public static void main(String[] args) {
        nodesOfNone();
        whatOfANode();
        nodesTold();
        plantsOfNone();
        whatOfAPlant();
        plantsTold();
        loadsOfNone();
        whatOfALoad();
        loadsTold();
        litInTheMinuteBefore();
        whatALoadWouldDraw();
        linesOfNone();
        linesTold();
        crewsOfNone();
        whatOfACrew();
        crewsTold();
        fallsOfNone();
        whatOfAFall();
        fallsTold();
        fallsOfTheFirstTwenty();
        Due.end();
    }

    private static void refused(String call, int[] bad, IntFunction<ToLongFunction<DarkLand>> of, long due) {
        for (int v : bad) {
            Twins.refuses(call + " " + v, of.apply(v), due);
        }
    }

    /** "-100000: no such NODE", ahead of "-200000: what" */
    private static void nodesOfNone() {
        refused("node", new int[] {-1, 4, LEAST, MOST}, n -> x -> x.nodeTold(n, 0), NO_NODE);
        refused("node, bad what,", new int[] {-1, 4, LEAST, MOST}, n -> x -> x.nodeTold(n, 6), NO_NODE);
        refused("node, bad what,", new int[] {-1, 4, LEAST, MOST}, n -> x -> x.nodeTold(n, -1), NO_NODE);
        DarkLand x = new DarkLand();
        for (int n = 0; n < 14; n++) {
            Due.is("ahead of it", x.nodeTold(n, 1), NO_NODE);
            x.node(0);
            Due.is("behind it", x.nodeTold(n, 1), n);
        }
        Due.is("nodeTold(14, 1)", x.nodeTold(14, 1), NO_NODE);
    }

    private static void whatOfANode() {
        for (int node = 0; node < 4; node++) {
            int n = node;
            refused("what of node " + n, new int[] {-1, 6, LEAST, MOST}, w -> x -> x.nodeTold(n, w), NO_WHAT);
        }
    }

    /** "0 LIT (1, 0), 1 its ISLAND, 2 SWING, 3 VOLTS, 4 SPARE, 5 HELD" */
    private static void nodesTold() {
        int[][] due = {{1, 0}, {0, 0}, {-4, 0}, {-4, 0}, {170, 0}, {2, 0}};
        DarkLand x = new DarkLand();
        x.node(0);
        x.node(0);
        x.line(0, 1, 10, 0);
        x.plant(1, 0, 200, 20);
        x.load(0, 20, 0);
        x.deed(START, 0);
        x.run(1);
        x.deed(LIGHT, 0);
        x.deed(CLOSE, 0);
        x.run(1);
        for (int what = 0; what < 6; what++) {
            Due.is("nodeTold(0, " + what + ")", x.nodeTold(0, what), due[what][0]);
            Due.is("nodeTold(1, " + what + ")", x.nodeTold(1, what), what == 5 ? 1 : due[what][0]);
        }
        x.deed(STOP, 0);
        x.run(1);
        for (int what = 0; what < 6; what++) {
            Due.is("nodeTold(1, " + what + ") in the dark", x.nodeTold(1, what), due[what][1]);
        }
        Twins.looks("nodeTold(1, 5)", y -> y.nodeTold(1, 5), 3);
        Twins.looks("nodeTold(3, 0)", y -> y.nodeTold(3, 0), 0);
        Twins.looks("nodeTold(1, 1)", y -> y.nodeTold(1, 1), 0);
        Twins.looks("nodeTold(3, 1)", y -> y.nodeTold(3, 1), 3);
    }

    private static void plantsOfNone() {
        refused("plant", new int[] {-1, 3, LEAST, MOST}, p -> x -> x.plantTold(p, 0), NONE);
        refused("plant, bad what,", new int[] {-1, 3, LEAST, MOST}, p -> x -> x.plantTold(p, 5), NONE);
        DarkLand x = new DarkLand();
        x.node(0);
        for (int p = 0; p < 8; p++) {
            Due.is("ahead of it", x.plantTold(p, 0), NONE);
            x.plant(3, 0, 1, 1);
            Due.is("behind it", x.plantTold(p, 0), 3);
        }
        Due.is("plantTold(8, 0)", x.plantTold(8, 0), NONE);
    }

    private static void whatOfAPlant() {
        for (int plant = 0; plant < 3; plant++) {
            int p = plant;
            refused("what of plant " + p, new int[] {-1, 5, LEAST, MOST}, w -> x -> x.plantTold(p, w), BAD);
        }
    }

    /** "0 KIND, 1 STATE, 2 OUT, 3 WARMED, 4 FELL" */
    private static void plantsTold() {
        Twins.looks("KIND", x -> x.plantTold(1, 0), 4);
        Twins.looks("STATE on", x -> x.plantTold(0, 1), 2);
        Twins.looks("STATE off", x -> x.plantTold(2, 1), 0);
        Twins.looks("OUT", x -> x.plantTold(0, 2), 36);
        Twins.looks("WARMED", x -> x.plantTold(0, 3), 1);
        Twins.looks("FELL", x -> x.plantTold(2, 4), 1);
        Twins.refusesBehind(x -> x.deed(START, 2), "STATE warming", x -> x.plantTold(2, 1), 1);
    }

    private static void loadsOfNone() {
        refused("load", new int[] {-1, 3, LEAST, MOST}, l -> x -> x.loadTold(l, 0), NONE);
        refused("load, bad what,", new int[] {-1, 3, LEAST, MOST}, l -> x -> x.loadTold(l, 6), NONE);
        DarkLand x = new DarkLand();
        x.node(0);
        for (int l = 0; l < 12; l++) {
            Due.is("ahead of it", x.loadTold(l, 5), NONE);
            x.load(0, 1, 7);
            Due.is("behind it", x.loadTold(l, 5), 7);
        }
        Due.is("loadTold(12, 5)", x.loadTold(12, 5), NONE);
    }

    private static void whatOfALoad() {
        for (int load = 0; load < 3; load++) {
            int l = load;
            refused("what of load " + l, new int[] {-1, 6, LEAST, MOST}, w -> x -> x.loadTold(l, w), BAD);
        }
    }

    /** Load 0 of the Twins is lit from minute 1 on, load 2 is on but dark by the fall of minute 1. */
    private static void loadsTold() {
        int[][] due = {{1, 1, 34, 3, 1, 3}, {0, 0, 60, 0, 4, 9}, {1, 0, 80, 0, 4, 1}};
        for (int load = 0; load < 3; load++) {
            for (int w = 0; w < 6; w++) {
                int l = load;
                int what = w;
                Twins.looks("loadTold(" + l + ", " + w + ")", x -> x.loadTold(l, what), due[l][w]);
            }
        }
    }

    /** "whether it was lit in the minute before (1, 0)": not whether it is on, nor whether its NODE is LIT now. */
    private static void litInTheMinuteBefore() {
        DarkLand x = new DarkLand();
        x.node(0);
        x.plant(1, 0, 200, 20);
        x.load(0, 5, 0);
        Due.is("in minute 0 there is none before", x.loadTold(0, 1), 0);
        x.deed(START, 0);
        x.run(1);
        x.deed(LIGHT, 0);
        Due.is("on and its node lit, but not in the minute before", x.loadTold(0, 1), 0);
        x.run(1);
        Due.is("lit", x.loadTold(0, 1), 1);
        x.deed(DIM, 0);
        Due.is("off now, but lit in the minute before", x.loadTold(0, 1), 1);
        x.deed(LIGHT, 0);
        x.deed(STOP, 0);
        Due.is("dark now, but lit in the minute before", x.loadTold(0, 1), 1);
        x.run(1);
        Due.is("dark", x.loadTold(0, 1), 0);
    }

    /** "what it would draw in this minute if it is lit": also of one that is off or dark. */
    private static void whatALoadWouldDraw() {
        DarkLand x = new DarkLand();
        x.node(0);
        x.plant(1, 0, 200, 20);
        x.load(0, 10, 0);
        Due.is("off and dark, cold", x.loadTold(0, 2), 20);
        x.deed(START, 0);
        x.deed(LIGHT, 0);
        x.run(1);
        Due.is("lit for 1", x.loadTold(0, 2), 19);
        x.deed(DIM, 0);
        Due.is("off now: if it is lit it goes on", x.loadTold(0, 2), 19);
        x.run(1);
        Due.is("dark for 1: not cold", x.loadTold(0, 2), 10);
        x.run(28);
        Due.is("dark for 29: not cold", x.loadTold(0, 2), 10);
        x.run(1);
        Due.is("dark for 30: cold", x.loadTold(0, 2), 20);
    }

    private static void linesOfNone() {
        refused("line", new int[] {-1, 3, LEAST, MOST}, l -> x -> x.lineTold(l), NONE);
        DarkLand x = new DarkLand();
        x.node(0);
        x.node(0);
        for (int l = 0; l < 20; l++) {
            Due.is("ahead of it", x.lineTold(l), NONE);
            Due.is("ahead of it", x.may(l), NONE);
            x.line(0, 1, 1, 1);
            Due.is("behind it", x.lineTold(l), 0);
            Due.is("behind it", x.may(l), 0);
        }
        Due.is("lineTold(20)", x.lineTold(20), NONE);
        Due.is("may(20)", x.may(20), NONE);
    }

    private static void linesTold() {
        Twins.looks("a closed line", x -> x.lineTold(0), 1);
        Twins.looks("an open line", x -> x.lineTold(1), 0);
        Twins.looks("a line that a fall has opened", x -> x.lineTold(2), 0);
    }

    private static void crewsOfNone() {
        refused("crew", new int[] {-1, 2, LEAST, MOST}, c -> x -> x.crewTold(c, 0), NONE);
        refused("crew, bad what,", new int[] {-1, 2, LEAST, MOST}, c -> x -> x.crewTold(c, 2), NONE);
        DarkLand x = new DarkLand();
        x.node(0);
        for (int c = 0; c < 4; c++) {
            Due.is("ahead of it", x.crewTold(c, 0), NONE);
            x.crew(0);
            Due.is("behind it", x.crewTold(c, 0), 0);
        }
        Due.is("crewTold(4, 0)", x.crewTold(4, 0), NONE);
    }

    private static void whatOfACrew() {
        refused("what of crew 0", new int[] {-1, 2, LEAST, MOST}, w -> x -> x.crewTold(0, w), BAD);
        refused("what of crew 1", new int[] {-1, 2, LEAST, MOST}, w -> x -> x.crewTold(1, w), BAD);
    }

    /** "0 where it is (as it goes: from where), 1 how many minutes it still goes" */
    private static void crewsTold() {
        Twins.looks("crewTold(0, 0)", x -> x.crewTold(0, 0), 0);
        Twins.looks("crewTold(0, 1)", x -> x.crewTold(0, 1), 0);
        Twins.looks("crewTold(1, 0)", x -> x.crewTold(1, 0), 2);
        Twins.looks("crewTold(1, 1)", x -> x.crewTold(1, 1), 20);
        Consumer<DarkLand> later = x -> x.run(19);
        Twins.refusesBehind(later, "from where", x -> x.crewTold(1, 0), 2);
        Twins.refusesBehind(later, "a minute short", x -> x.crewTold(1, 1), 1);
        Twins.refusesBehind(later.andThen(x -> x.run(1)), "there", x -> x.crewTold(1, 0), 0);
        Twins.refusesBehind(later.andThen(x -> x.run(1)), "it goes no more", x -> x.crewTold(1, 1), 0);
    }

    private static void fallsOfNone() {
        refused("fall", new int[] {-1, 1, LEAST, MOST}, i -> x -> x.fall(i, 0), NONE);
        refused("fall, bad what,", new int[] {-1, 1, LEAST, MOST}, i -> x -> x.fall(i, 3), NONE);
    }

    private static void whatOfAFall() {
        refused("what of fall 0", new int[] {-1, 3, LEAST, MOST}, w -> x -> x.fall(0, w), BAD);
    }

    /** "0 MINUTE, 1 NODE, 2 why" */
    private static void fallsTold() {
        Twins.looks("MINUTE", x -> x.fall(0, 0), 1);
        Twins.looks("NODE", x -> x.fall(0, 1), 2);
        Twins.looks("why", x -> x.fall(0, 2), 1);
    }

    /** "FALL i (of the first 20)": the 20th is told, the 21st is none, though it is counted. */
    private static void fallsOfTheFirstTwenty() {
        DarkLand x = new DarkLand();
        x.node(0);
        x.plant(1, 0, 100, 1);
        x.load(0, 90, 0);
        x.deed(LIGHT, 0);
        for (int i = 0; i < 21; i++) {
            Due.is("ahead of it", x.fall(i, 0), NONE);
            x.deed(START, 0);
            x.run(1);
            Due.is("behind it", x.fall(i, 0), i < 20 ? i : NONE);
            Due.is("behind it, what 3", x.fall(i, 3), i < 20 ? BAD : NONE);
        }
        Due.is("count(10)", x.count(10), 21);
        Due.is("fall(20, 2)", x.fall(20, 2), NONE);
        Due.is("fall(0, 0) is the first still", x.fall(0, 0), 0);
    }
}
