import java.util.function.Consumer;
import java.util.function.IntFunction;
import java.util.function.ToLongFunction;

/** Terms 1 and promises 1 to 8, a test for each sentence that names a boundary. */
public final class EdgesOfThingsTest {
    private static final int BAD = DarkLand.BAD, NONE = DarkLand.NONE, FULL = DarkLand.FULL;
    private static final int LEAST = Integer.MIN_VALUE, MOST = Integer.MAX_VALUE;

    private static final Consumer<DarkLand> FULL_OF_NODES = x -> fill(10, () -> x.node(7));
    private static final Consumer<DarkLand> FULL_OF_LINES = x -> fill(17, () -> x.line(3, 0, 1, 1));
    private static final Consumer<DarkLand> FULL_OF_PLANTS = x -> fill(5, () -> x.plant(5, 2, 9, 9));
    private static final Consumer<DarkLand> FULL_OF_LOADS = x -> fill(9, () -> x.load(2, 9, 9));
    private static final Consumer<DarkLand> FULL_OF_CREWS = x -> fill(2, () -> x.crew(3));
    private static final Consumer<DarkLand> FULL_OF_ROOMS = x -> fill(2, () -> x.room(0, 3));

    public static void main(String[] args) {
        aNewObject();
        constants();
        nodesAreNumbered();
        xOfANode();
        nodesAtMost();
        linesAreNumbered();
        linesBetweenNodes();
        linesAlike();
        chargeOfALine();
        manualOfALine();
        linesAtMost();
        linesAreOpenAtFirst();
        plantsAreNumbered();
        nodeOfAPlant();
        kindOfAPlant();
        mostOfAPlant();
        weightOfAPlant();
        plantsAtMost();
        plantsAreOffAtFirst();
        loadsAreNumbered();
        nodeOfALoad();
        drawOfALoad();
        rankOfALoad();
        loadsAtMost();
        loadsAreOffAtFirst();
        crewsAtMost();
        nodeOfACrew();
        roomsAtMost();
        nodeOfARoom();
        delayOfARoom();
        kindsTold();
        needsAreCut();
        warmsByOff();
        kindToldRefuses();
        outIsUpToMost();
        outIsNoneIfNotOn();
        islandsByTheirLeast();
        litIfAPlantIsOn();
        Due.end();
    }

    private static void fill(int n, Runnable call) {
        for (int i = 0; i < n; i++) {
            call.run();
        }
    }

    /** The last that are taken at both ends, and the first that are refused, and the farthest. */
    private static void within(String what, int low, int high, IntFunction<ToLongFunction<DarkLand>> call) {
        for (int v : new int[] {low, high}) {
            Due.holds(what + " " + v + " is taken", call.apply(v).applyAsLong(Twins.land()) >= 0);
        }
        for (int v : new int[] {low - 1, high + 1, LEAST, MOST}) {
            Twins.refuses(what + " " + v, call.apply(v), BAD);
        }
    }

    private static void noSuch(String what, int count, IntFunction<ToLongFunction<DarkLand>> call) {
        for (int v : new int[] {0, count - 1}) {
            Due.holds(what + " " + v + " is taken", call.apply(v).applyAsLong(Twins.land()) >= 0);
        }
        for (int v : new int[] {-1, count, LEAST, MOST}) {
            Twins.refuses(what + " " + v, call.apply(v), NONE);
        }
    }

    /** "No NODES; MINUTE 0."; TEXT 0 stands at first, SHEETS are missing, planned is 0. */
    private static void aNewObject() {
        DarkLand x = new DarkLand();
        for (int what = 0; what < 12; what++) {
            Due.is("count(" + what + ")", x.count(what), what == 8 ? 1 : 0);
        }
        Due.is("planned(-1)", x.planned(-1), 0);
        Due.is("planned(0)", x.planned(0), NONE);
        Due.is("nodeTold(0, 0)", x.nodeTold(0, 0), -100000);
        Due.is("plantTold(0, 0)", x.plantTold(0, 0), NONE);
        Due.is("loadTold(0, 0)", x.loadTold(0, 0), NONE);
        Due.is("lineTold(0)", x.lineTold(0), NONE);
        Due.is("may(0)", x.may(0), NONE);
        Due.is("crewTold(0, 0)", x.crewTold(0, 0), NONE);
        Due.is("fall(0, 0)", x.fall(0, 0), NONE);
        Due.is("mend(0)", x.mend(0), NONE);
        Due.is("ordered(0)", x.ordered(0), NONE);
        Due.is("sees(0, 0, 0, 0)", x.sees(0, 0, 0, 0), DarkLand.NO);
        Due.is("when(0, 0)", x.when(0, 0), DarkLand.NO);
        Due.is("crew(0)", x.crew(0), NONE);
        Due.is("go(0, 0)", x.go(0, 0), NONE);
        for (int s = 0; s < 4; s++) {
            Due.is("cell(" + s + ", 0, 0)", x.cell(s, 0, 0), -11);
        }
        for (int deed = 0; deed < 6; deed++) {
            Due.is("deed(" + deed + ", 0)", x.deed(deed, 0), NONE);
        }
        Due.is("taken(0, 0)", x.taken(0, 0), -11);
        Due.is("run(100) of nothing", x.run(100), 100);
        Due.is("beside(100, 0) of nothing", x.beside(100, 0), 0);
    }

    private static void constants() {
        Due.is("NONE", DarkLand.NONE, -1);
        Due.is("BAD", DarkLand.BAD, -2);
        Due.is("STATE", DarkLand.STATE, -3);
        Due.is("FULL", DarkLand.FULL, -4);
        Due.is("NO", DarkLand.NO, -4611686018427387904L);
        Due.is("NO is the least long by two", DarkLand.NO, Long.MIN_VALUE / 2);
    }

    /** "NODES are numbered from 0 on" */
    private static void nodesAreNumbered() {
        DarkLand x = new DarkLand();
        for (int n = 0; n < 14; n++) {
            Due.is("node", x.node(50), n);
            Due.is("count(1)", x.count(1), n + 1);
        }
    }

    /** "at x (0 .. 99)" */
    private static void xOfANode() {
        within("x", 0, 99, x -> land -> land.node(x));
        DarkLand x = new DarkLand();
        x.node(0);
        x.node(99);
        x.crew(0);
        Due.is("from x 0 to x 99", x.go(0, 1), 99);
    }

    /** "14 at most"; BAD is told ahead of FULL. */
    private static void nodesAtMost() {
        Due.is("the 14th", lastTaken(FULL_OF_NODES, 1), 14);
        Twins.refusesBehind(FULL_OF_NODES, "the 15th", x -> x.node(0), FULL);
        Twins.refusesBehind(FULL_OF_NODES, "the 15th at 99", x -> x.node(99), FULL);
        Twins.refusesBehind(FULL_OF_NODES, "BAD ahead of FULL", x -> x.node(-1), BAD);
        Twins.refusesBehind(FULL_OF_NODES, "BAD ahead of FULL", x -> x.node(100), BAD);
    }

    private static long lastTaken(Consumer<DarkLand> fill, int what) {
        DarkLand x = Twins.land();
        fill.accept(x);
        return x.count(what);
    }

    /** "LINES are numbered from 0 on" */
    private static void linesAreNumbered() {
        DarkLand x = new DarkLand();
        x.node(0);
        x.node(0);
        for (int l = 0; l < 20; l++) {
            Due.is("line", x.line(l % 2, 1 - l % 2, 0, 0), l);
            Due.is("count(2)", x.count(2), l + 1);
        }
    }

    /** "between two NODES"; "NONE: NODES", told ahead of BAD. */
    private static void linesBetweenNodes() {
        noSuch("a of line", 4, a -> x -> x.line(a, a == 1 ? 0 : 1, 0, 0));
        noSuch("b of line", 4, b -> x -> x.line(b == 1 ? 0 : 1, b, 0, 0));
        Twins.refuses("line(4, 4, ..): NONE ahead of alike", x -> x.line(4, 4, 0, 0), NONE);
        Twins.refuses("line(-1, -1, ..): NONE ahead of alike", x -> x.line(-1, -1, 0, 0), NONE);
        Twins.refuses("NONE of a ahead of CHARGE", x -> x.line(4, 0, 100, 0), NONE);
        Twins.refuses("NONE of b ahead of CHARGE", x -> x.line(0, 4, -1, 0), NONE);
        Twins.refuses("NONE ahead of MANUAL", x -> x.line(0, 4, 0, 2), NONE);
    }

    /** "BAD: alike" */
    private static void linesAlike() {
        for (int n = 0; n < 4; n++) {
            int a = n;
            Twins.refuses("alike " + n, x -> x.line(a, a, 0, 0), BAD);
        }
        Due.is("NODES of a like x are not alike", Twins.land().line(2, 3, 0, 0), 3);
        Due.is("a line like another", Twins.land().line(0, 1, 10, 0), 3);
        Due.is("the other way", Twins.land().line(1, 0, 10, 0), 3);
    }

    /** "a CHARGE (0 .. 99)" */
    private static void chargeOfALine() {
        within("CHARGE", 0, 99, c -> x -> x.line(0, 1, c, 0));
        // a dam's SOAK of 10 off the charge
        for (int charge : new int[] {0, 60}) {
            DarkLand x = lit();
            x.line(0, 1, charge, 0);
            x.deed(0, 0);
            x.run(1);
            Due.is("VOLTS by a charge of " + charge, x.nodeTold(1, 3), charge - 10);
        }
        DarkLand x = lit();
        x.line(0, 1, 99, 0);
        x.deed(0, 0);
        x.run(1);
        Due.is("99 bursts it", x.fall(0, 2), 3);
    }

    /** A dam on at node 0 at minute 1, and a node 1. */
    private static DarkLand lit() {
        DarkLand x = new DarkLand();
        x.node(0);
        x.node(0);
        x.plant(1, 0, 200, 20);
        x.deed(2, 0);
        x.run(1);
        return x;
    }

    /** "MANUAL or not"; "MANUAL (0, 1)" */
    private static void manualOfALine() {
        within("MANUAL", 0, 1, m -> x -> x.line(0, 1, 0, m));
        DarkLand x = lit();
        x.line(0, 1, 0, 0);
        x.line(0, 1, 0, 1);
        Due.is("0: none needs be there", x.may(0), 1);
        Due.is("1: a crew must be there", x.may(1), 0);
    }

    /** "20 at most"; NONE and BAD are told ahead of FULL. */
    private static void linesAtMost() {
        Due.is("the 20th", lastTaken(FULL_OF_LINES, 2), 20);
        Twins.refusesBehind(FULL_OF_LINES, "the 21st", x -> x.line(0, 1, 0, 0), FULL);
        Twins.refusesBehind(FULL_OF_LINES, "NONE ahead of FULL", x -> x.line(0, 4, 0, 0), NONE);
        Twins.refusesBehind(FULL_OF_LINES, "alike ahead of FULL", x -> x.line(0, 0, 0, 0), BAD);
        Twins.refusesBehind(FULL_OF_LINES, "CHARGE ahead of FULL", x -> x.line(0, 1, 100, 0), BAD);
        Twins.refusesBehind(FULL_OF_LINES, "MANUAL ahead of FULL", x -> x.line(0, 1, 0, 2), BAD);
    }

    /** "open at first", between what is lit too. */
    private static void linesAreOpenAtFirst() {
        DarkLand x = lit();
        for (int l = 0; l < 20; l++) {
            x.line(0, 1, 0, 0);
            Due.is("lineTold(" + l + ")", x.lineTold(l), 0);
        }
        Due.is("node 1 hangs by none", x.nodeTold(1, 1), 1);
    }

    /** "PLANTS are numbered from 0 on" */
    private static void plantsAreNumbered() {
        DarkLand x = new DarkLand();
        x.node(0);
        for (int p = 0; p < 8; p++) {
            Due.is("plant", x.plant(0, 0, 1, 1), p);
            Due.is("count(3)", x.count(3), p + 1);
        }
    }

    /** "NONE: NODE", told ahead of BAD. */
    private static void nodeOfAPlant() {
        noSuch("NODE of a plant", 4, n -> x -> x.plant(0, n, 1, 1));
        Twins.refuses("NONE ahead of KIND", x -> x.plant(6, 4, 1, 1), NONE);
        Twins.refuses("NONE ahead of MOST", x -> x.plant(0, 4, 0, 1), NONE);
        Twins.refuses("NONE ahead of WEIGHT", x -> x.plant(0, 4, 1, 0), NONE);
    }

    /** "BAD: KIND": there are 0 to 5. */
    private static void kindOfAPlant() {
        within("KIND", 0, 5, k -> x -> x.plant(k, 0, 1, 1));
        for (int k = 0; k < 6; k++) {
            DarkLand x = Twins.land();
            x.plant(k, 0, 1, 1);
            Due.is("plantTold(3, 0)", x.plantTold(3, 0), k);
        }
    }

    /** "of MOST 1 .. 999" */
    private static void mostOfAPlant() {
        within("MOST", 1, 999, m -> x -> x.plant(0, 0, m, 1));
        for (int most : new int[] {1, 999}) {
            DarkLand x = Twins.land();
            x.plant(0, 0, most, 1);
            Due.is("its MOST", x.taken(3, 0), most);
        }
    }

    /** "WEIGHT 1 .. 99": a load comes back cold to a dam that follows by 30. */
    private static void weightOfAPlant() {
        within("WEIGHT", 1, 99, w -> x -> x.plant(0, 0, 1, w));
        for (int weight : new int[] {1, 99}) {
            DarkLand x = new DarkLand();
            x.node(0);
            x.plant(1, 0, 200, weight);
            x.load(0, weight == 1 ? 16 : 25, 0);
            x.deed(2, 0);
            x.run(1);
            x.deed(4, 0);
            x.run(1);
            // 2 too little by 1 is -20, less a fourth -15; 20 too little by 99 is -2, and its fourth is none
            Due.is("SWING by a weight of " + weight, x.nodeTold(0, 2), weight == 1 ? -15 : -2);
        }
    }

    /** "8 at most"; NONE and BAD are told ahead of FULL. */
    private static void plantsAtMost() {
        Due.is("the 8th", lastTaken(FULL_OF_PLANTS, 3), 8);
        Twins.refusesBehind(FULL_OF_PLANTS, "the 9th", x -> x.plant(0, 0, 1, 1), FULL);
        Twins.refusesBehind(FULL_OF_PLANTS, "NONE ahead of FULL", x -> x.plant(0, 4, 1, 1), NONE);
        Twins.refusesBehind(FULL_OF_PLANTS, "KIND ahead of FULL", x -> x.plant(6, 0, 1, 1), BAD);
        Twins.refusesBehind(FULL_OF_PLANTS, "MOST ahead of FULL", x -> x.plant(0, 0, 1000, 1), BAD);
        Twins.refusesBehind(FULL_OF_PLANTS, "WEIGHT ahead of FULL", x -> x.plant(0, 0, 1, 100), BAD);
    }

    /** "0 OFF (at first)"; "FELL ... (0 at first)", told late too. */
    private static void plantsAreOffAtFirst() {
        DarkLand x = lit();
        x.run(40);
        for (int k = 0; k < 6; k++) {
            int p = x.plant(k, 0, 50, 5);
            for (int what = 1; what < 5; what++) {
                Due.is("plantTold(" + p + ", " + what + ") at first", x.plantTold(p, what), 0);
            }
        }
    }

    /** "LOADS are numbered from 0 on" */
    private static void loadsAreNumbered() {
        DarkLand x = new DarkLand();
        x.node(0);
        for (int l = 0; l < 12; l++) {
            Due.is("load", x.load(0, 1, 0), l);
            Due.is("count(4)", x.count(4), l + 1);
        }
    }

    /** "NONE: NODE", told ahead of BAD. */
    private static void nodeOfALoad() {
        noSuch("NODE of a load", 4, n -> x -> x.load(n, 1, 0));
        Twins.refuses("NONE ahead of DRAW", x -> x.load(4, 0, 0), NONE);
        Twins.refuses("NONE ahead of RANK", x -> x.load(4, 1, 10), NONE);
    }

    /** "a DRAW 1 .. 999" */
    private static void drawOfALoad() {
        within("DRAW", 1, 999, d -> x -> x.load(0, d, 0));
        for (int draw : new int[] {1, 999}) {
            DarkLand x = Twins.land();
            x.load(0, draw, 0);
            Due.is("it comes back cold with double its draw", x.loadTold(3, 2), 2 * draw);
        }
    }

    /** "a RANK 0 .. 9" */
    private static void rankOfALoad() {
        within("RANK", 0, 9, r -> x -> x.load(0, 1, r));
        for (int rank : new int[] {0, 9}) {
            DarkLand x = Twins.land();
            x.load(0, 1, rank);
            Due.is("loadTold(3, 5)", x.loadTold(3, 5), rank);
        }
    }

    /** "12 at most"; NONE and BAD are told ahead of FULL. */
    private static void loadsAtMost() {
        Due.is("the 12th", lastTaken(FULL_OF_LOADS, 4), 12);
        Twins.refusesBehind(FULL_OF_LOADS, "the 13th", x -> x.load(0, 1, 0), FULL);
        Twins.refusesBehind(FULL_OF_LOADS, "NONE ahead of FULL", x -> x.load(4, 1, 0), NONE);
        Twins.refusesBehind(FULL_OF_LOADS, "DRAW ahead of FULL", x -> x.load(0, 0, 0), BAD);
        Twins.refusesBehind(FULL_OF_LOADS, "RANK ahead of FULL", x -> x.load(0, 1, 10), BAD);
    }

    /** "off at first" */
    private static void loadsAreOffAtFirst() {
        DarkLand x = lit();
        for (int l = 0; l < 12; l++) {
            x.load(0, 5, 0);
            Due.is("loadTold(" + l + ", 0)", x.loadTold(l, 0), 0);
        }
        x.run(1);
        Due.is("none draws", x.plantTold(0, 2), 0);
    }

    /** "CREWS, 4 at most"; NONE is told ahead of FULL. */
    private static void crewsAtMost() {
        DarkLand x = new DarkLand();
        x.node(0);
        for (int c = 0; c < 4; c++) {
            Due.is("crew", x.crew(0), c);
            Due.is("count(5)", x.count(5), c + 1);
        }
        Twins.refusesBehind(FULL_OF_CREWS, "the 5th", y -> y.crew(0), FULL);
        Twins.refusesBehind(FULL_OF_CREWS, "NONE ahead of FULL", y -> y.crew(4), NONE);
    }

    private static void nodeOfACrew() {
        noSuch("NODE of a crew", 4, n -> x -> x.crew(n));
        for (int n = 0; n < 4; n++) {
            DarkLand x = Twins.land();
            x.crew(n);
            Due.is("where it is", x.crewTold(2, 0), n);
            Due.is("it is not on its way", x.crewTold(2, 1), 0);
        }
    }

    /** "ROOMS, 4 at most"; NONE and BAD are told ahead of FULL. */
    private static void roomsAtMost() {
        DarkLand x = new DarkLand();
        x.node(0);
        for (int r = 0; r < 4; r++) {
            Due.is("room", x.room(0, 0), r);
            Due.is("count(6)", x.count(6), r + 1);
        }
        Twins.refusesBehind(FULL_OF_ROOMS, "the 5th", y -> y.room(0, 0), FULL);
        Twins.refusesBehind(FULL_OF_ROOMS, "NONE ahead of FULL", y -> y.room(4, 0), NONE);
        Twins.refusesBehind(FULL_OF_ROOMS, "BAD ahead of FULL", y -> y.room(0, 31), BAD);
    }

    private static void nodeOfARoom() {
        noSuch("NODE of a room", 4, n -> x -> x.room(n, 0));
        Twins.refuses("NONE ahead of DELAY", x -> x.room(4, 31), NONE);
        Twins.refuses("NONE ahead of DELAY", x -> x.room(-1, -1), NONE);
    }

    /** "a DELAY 0 .. 30": a room sees in minute t what was in minute t less 1 less its delay. */
    private static void delayOfARoom() {
        within("DELAY", 0, 30, d -> x -> x.room(0, d));
        for (int delay : new int[] {0, 30}) {
            DarkLand x = lit();
            x.room(0, delay);
            Tape.read(x, "when held;");
            x.run(delay);
            Due.is("held as of minute 0", x.when(0, 1), 1);
            x.run(1);
            Due.is("held as of minute 1", x.when(0, 1), 2);
        }
    }

    /** The numbers of each KIND, where it does not matter how much it can put out or how long it was off. */
    private static void kindsTold() {
        int[] ramp = {10, 30, 10, 50, 5, 1};
        int[] soak = {10, 10, 10, 30, 10, 10};
        int[] alone = {0, 1, 0, 1, 0, 0};
        DarkLand x = new DarkLand();
        for (int k = 0; k < 6; k++) {
            for (int[] at : new int[][] {{1, 0}, {1, 999}, {999, 0}, {999, 999}}) {
                String of = "of kind " + k + ", MOST " + at[0] + ", OFF " + at[1];
                Due.is("RAMP " + of, x.kindTold(k, 0, at[0], at[1]), ramp[k]);
                Due.is("SOAK " + of, x.kindTold(k, 3, at[0], at[1]), soak[k]);
                Due.is("ALONE " + of, x.kindTold(k, 4, at[0], at[1]), alone[k]);
            }
        }
    }

    /** "MOST by 20 and 1 more (cut)"; "NEED twice" of a STEAM and what is as of it. */
    private static void needsAreCut() {
        int[] most = {1, 19, 20, 39, 40, 979, 980, 999};
        int[] need = {1, 1, 2, 2, 3, 49, 50, 50};
        int[] times = {1, 1, 2, 1, 2, 2};
        DarkLand x = new DarkLand();
        for (int i = 0; i < most.length; i++) {
            for (int k = 0; k < 6; k++) {
                Due.is("NEED of kind " + k + ", MOST " + most[i], x.kindTold(k, 1, most[i], 5), need[i] * times[k]);
            }
        }
    }

    /** "WARMS as a PLANT's if OFF is 30 at most, else 4 times that"; "100 more than that if OFF is above 30" */
    private static void warmsByOff() {
        int[][] warms = {{5, 5}, {1, 1}, {5, 20}, {1, 1}, {10, 25}, {25, 140}};
        DarkLand x = new DarkLand();
        for (int k = 0; k < 6; k++) {
            for (int off : new int[] {0, 1, 29, 30, 31, 32, 998, 999}) {
                Due.is("WARMS of kind " + k + ", OFF " + off, x.kindTold(k, 2, 50, off), warms[k][off > 30 ? 1 : 0]);
            }
        }
    }

    /** "a KIND and MOST (1 .. 999) what 0 .. 4, OFF (0 .. 999)": BAD. */
    private static void kindToldRefuses() {
        within("KIND told", 0, 5, k -> x -> x.kindTold(k, 0, 1, 0));
        within("what told of a KIND", 0, 4, w -> x -> x.kindTold(0, w, 1, 0));
        for (int what = 0; what < 5; what++) {
            int w = what;
            within("MOST told, what " + what, 1, 999, m -> x -> x.kindTold(0, w, m, 0));
            within("OFF told, what " + what, 0, 999, o -> x -> x.kindTold(0, w, 1, o));
        }
    }

    /** "OUT (0 .. MOST ..)": a dam of 7 that 20 are drawn from. */
    private static void outIsUpToMost() {
        DarkLand x = new DarkLand();
        x.node(0);
        x.plant(1, 0, 7, 99);
        x.load(0, 10, 0);
        x.deed(2, 0);
        x.deed(4, 0);
        for (int m = 0; m < 3; m++) {
            x.run(1);
            Due.is("OUT", x.plantTold(0, 2), 7);
            Due.is("SPARE", x.nodeTold(0, 4), 0);
        }
        x.deed(5, 0);
        for (int m = 0; m < 2; m++) {
            x.run(1);
            Due.is("OUT", x.plantTold(0, 2), 0);
            Due.is("SPARE", x.nodeTold(0, 4), 7);
        }
    }

    /** "OUT (.. 0 if it isn't ON)" */
    private static void outIsNoneIfNotOn() {
        DarkLand x = lit();
        x.load(0, 10, 0);
        x.deed(4, 0);
        Due.is("as it is on and nothing was drawn", x.plantTold(0, 2), 0);
        x.run(1);
        Due.is("as it is on", x.plantTold(0, 2), 20);
        x.deed(3, 0);
        Due.is("as it is off", x.plantTold(0, 2), 0);
        x.deed(2, 0);
        Due.is("as it warms", x.plantTold(0, 2), 0);
        x.run(1);
        Due.is("as it is on anew: the load was lit for a minute", x.plantTold(0, 2), 19);
    }

    /** "told by their least NODE" */
    private static void islandsByTheirLeast() {
        DarkLand x = new DarkLand();
        for (int n = 0; n < 5; n++) {
            x.node(0);
        }
        x.plant(1, 4, 100, 10);
        x.line(4, 2, 0, 0);
        x.line(3, 4, 0, 0);
        x.line(3, 1, 0, 0);
        x.deed(2, 0);
        x.run(1);
        int[][] island = {{0, 1, 2, 3, 4}, {0, 1, 2, 3, 2}, {0, 1, 2, 2, 2}, {0, 1, 1, 1, 1}};
        for (int l = 0; l < 4; l++) {
            for (int n = 0; n < 5; n++) {
                Due.is("island of " + n + " by " + l + " lines", x.nodeTold(n, 1), island[l][n]);
            }
            Due.is("CLOSE", l < 3 ? x.deed(0, l) : 1, 1);
        }
        Due.is("OPEN", x.deed(1, 1), 1);
        int[] apart = {0, 1, 2, 1, 2};
        for (int n = 0; n < 5; n++) {
            Due.is("island of " + n + " apart", x.nodeTold(n, 1), apart[n]);
        }
    }

    /** "One is LIT, if a PLANT of it is ON." */
    private static void litIfAPlantIsOn() {
        DarkLand x = new DarkLand();
        x.node(0);
        x.plant(1, 0, 100, 10);
        x.plant(3, 0, 100, 10);
        Due.is("none on", x.nodeTold(0, 0), 0);
        x.deed(2, 0);
        x.deed(2, 1);
        Due.is("both warming", x.nodeTold(0, 0), 0);
        x.run(1);
        Due.is("both on", x.nodeTold(0, 0), 1);
        x.deed(3, 0);
        Due.is("one on", x.nodeTold(0, 0), 1);
        x.deed(3, 1);
        Due.is("none on any more", x.nodeTold(0, 0), 0);
    }
}
