/** Promises 25 to 27: plans, and what would be beside. */
public final class AheadTest {
    private static final int BAD = DarkLand.BAD, NONE = DarkLand.NONE, FULL = DarkLand.FULL;
    private static final long NO = DarkLand.NO;

    public static void main(String[] args) {
        wrongPlans();
        theBestIsPlanned();
        likeOnes();
        sizesOfSheets();
        deedsThatCantBeDone();
        whatFallsIsNotPlanned();
        chainsOfDeeds();
        gaps();
        plansWithOrders();
        atMostFourDeeds();
        choicesOnce();
        warmingBeside();
        beside();
        besideChangesNothing();
        Due.end();
    }

    /** A dam on at node 0, a line to node 1, loads of 10 and 20 at 0 and of 5 at 1. */
    private static DarkLand land() {
        DarkLand x = new DarkLand();
        x.node(0);
        x.node(10);
        x.line(0, 1, 25, 0);
        x.plant(1, 0, 300, 40);
        x.load(0, 10, 1);
        x.load(0, 20, 3);
        x.load(1, 5, 9);
        x.deed(2, 0);
        x.run(1);
        return x;
    }

    private static void choices(DarkLand x, int... cells) {
        x.sheet(0, 2, cells.length);
        for (int i = 0; i < cells.length; i++) {
            x.cell(0, i, cells[i]);
        }
    }

    private static void planned(DarkLand x, int... row) {
        Due.is("planned(-1)", x.planned(-1), row.length);
        for (int i = 0; i < 5; i++) {
            Due.is("planned(" + i + ")", x.planned(i), i < row.length ? row[i] : NONE);
        }
        Due.is("planned(-2)", x.planned(-2), NONE);
        Due.is("planned(most)", x.planned(Integer.MAX_VALUE), NONE);
    }

    private static void wrongPlans() {
        DarkLand x = land();
        planned(x);
        Due.is("missing", x.plan(0, 1, 10), NO);
        choices(x, 4, 0, 4, 1);
        Due.is("SHEET -1", x.plan(-1, 1, 10), NO);
        Due.is("SHEET 4", x.plan(4, 1, 10), NO);
        Due.is("GAP 0", x.plan(0, 0, 10), NO);
        Due.is("GAP 11", x.plan(0, 11, 40), NO);
        Due.is("n 0", x.plan(0, 1, 0), NO);
        Due.is("n 41", x.plan(0, 1, 41), NO);
        Due.is("n as 3 GAPS", x.plan(0, 3, 9), NO);
        Due.is("n above 3 GAPS", x.plan(0, 3, 10), 10 * (2 + 4) - 3 * 2);
        planned(x, 1, 0);
        Due.is("a DEED that is none", x.cell(0, 2, 6), 1);
        Due.is("a DEED that is none", x.plan(0, 1, 10), NO);
        x.cell(0, 2, -1);
        Due.is("a DEED that is none", x.plan(0, 1, 10), NO);
        planned(x, 1, 0);
        x.cell(0, 2, 5);
        for (int i = 0; i < 5; i++) {
            x.run(100);
        }
        x.run(70);
        Due.is("beyond 600", x.plan(0, 1, 30), NO);
        planned(x, 1, 0);
        Due.is("up to 600", x.plan(0, 1, 29), 29 * 2);
        planned(x, 0);
        Due.is("count(0)", x.count(0), 571);
    }

    private static void theBestIsPlanned() {
        DarkLand x = land();
        choices(x, 4, 0, 4, 1, 0, 0, 4, 2);
        // the load of the highest rank needs the line as well, which gives ranks of 9 only from two deeds on
        long worth = x.plan(0, 1, 10);
        Due.is("plan", worth, 9 * 10 + 10 * 0 + 8 * 4 + 7 * 2);
        planned(x, 0 + 2, 3, 1, 0);
        Due.is("nothing is done by it", x.loadTold(0, 0) + x.loadTold(1, 0) + x.loadTold(2, 0) + x.lineTold(0), 0);
        Due.is("nothing is run by it", x.count(0), 1);
    }

    private static void likeOnes() {
        DarkLand x = new DarkLand();
        x.node(0);
        x.plant(1, 0, 300, 40);
        x.load(0, 10, 1);
        x.load(0, 12, 1);
        x.deed(2, 0);
        x.run(1);
        choices(x, 5, 1, 4, 1, 4, 0, 4, 0);
        Due.is("plan", x.plan(0, 2, 7), 7 * 2 + 5 * 2);
        // first of 1, 2; 1, 3; 2, 1; 3, 1
        planned(x, 1, 2);
        x.load(0, 14, 0);
        choices(x, 4, 2, 3, 0);
        Due.is("fewest", x.plan(0, 1, 4), 4);
        planned(x, 0);
        x.deed(4, 2);
        choices(x, 3, 0, 5, 2, 2, 0);
        Due.is("a STOP, and a START a minute later", x.plan(0, 1, 4), 3);
        planned(x, 0, 2);
        choices(x, 5, 2, 3, 0);
        Due.is("of none that is better the fewest", x.plan(0, 1, 4), 0);
        planned(x, 0);
        choices(x, 5, 2);
        Due.is("nothing grows", x.plan(0, 1, 4), 0);
        planned(x, 0);
    }

    private static void sizesOfSheets() {
        DarkLand x = land();
        for (int size = 0; size <= 12; size++) {
            x.sheet(1, size % 3, size);
            for (int i = 0; i < size; i += 2) {
                x.cell(1, i, 4);
            }
            boolean fits = size >= 2 && size <= 10 && size % 2 == 0;
            Due.is("a sheet of " + size, x.plan(1, 1, 4), fits ? 8 : NO);
        }
    }

    private static void deedsThatCantBeDone() {
        DarkLand x = land();
        choices(x, 4, 99);
        Due.is("of none", x.plan(0, 1, 10), -1);
        planned(x);
        choices(x, 4, -1, 4, 0);
        Due.is("of none", x.plan(0, 1, 10), 20);
        planned(x, 1);
        choices(x, 0, 1, 1, 0, 5, 0, 2, 0);
        Due.is("none can", x.plan(0, 1, 10), -1);
        planned(x);
        choices(x, 3, 0, 2, 0);
        Due.is("STOP, START", x.plan(0, 1, 10), 0);
        planned(x, 0);
    }

    private static void whatFallsIsNotPlanned() {
        DarkLand x = land();
        x.load(0, 900, 9);
        choices(x, 4, 3, 4, 0);
        Due.is("a load that is too much", x.plan(0, 1, 10), 20);
        planned(x, 1);
        choices(x, 4, 3);
        Due.is("nothing else", x.plan(0, 1, 10), -1);
        planned(x);
        x.line(0, 1, 70, 0);
        choices(x, 0, 1, 4, 2, 4, 0);
        Due.is("a line that bursts it", x.plan(0, 1, 10), 20);
        planned(x, 2);
        Due.is("no falls came", x.count(10), 0);

        // two dams far apart in swing: the fall of the one forbids what is done at the other
        DarkLand y = land();
        y.plant(1, 1, 300, 1);
        y.load(1, 200, 0);
        y.deed(2, 1);
        y.run(1);
        y.deed(4, 3);
        choices(y, 4, 0, 5, 3);
        Due.is("whatever falls", y.plan(0, 1, 10), 18);
        planned(y, 1, 0);
    }

    private static void chainsOfDeeds() {
        DarkLand x = new DarkLand();
        x.node(0);
        x.node(9);
        x.plant(1, 0, 300, 40);
        x.plant(0, 1, 300, 40);
        x.line(0, 1, 1, 0);
        x.load(1, 10, 9);
        choices(x, 4, 0, 2, 1, 0, 0, 2, 0);
        // the dam is on in minute 1, so that the line can be closed ahead of minute 2
        Due.is("plan", x.plan(0, 1, 12), 10 * 10);
        planned(x, 0, 3, 2);
        choices(x, 2, 1, 0, 0, 2, 0);
        Due.is("without a load", x.plan(0, 1, 12), 0);
        planned(x, 2);
    }

    private static void gaps() {
        DarkLand x = land();
        choices(x, 4, 0, 4, 1);
        for (int gap = 1; gap <= 10; gap++) {
            Due.is("GAP " + gap, x.plan(0, gap, 40), 40 * 4 + (40 - gap) * 2);
            planned(x, 1, 0);
        }
        x.crew(1);
        x.line(0, 1, 0, 1);
        x.go(0, 0);
        choices(x, 4, 2, 0, 1);
        Due.is("a crew that isn't there yet", x.plan(0, 9, 28), -1 + 1);
        planned(x, 0);
        Due.is("a crew that is", x.plan(0, 10, 31), 21 * 10);
        planned(x, 0, 1);
    }

    private static void plansWithOrders() {
        DarkLand x = land();
        x.room(0, 0);
        // done in minute 6
        x.order(0, 0, 4, 0);
        choices(x, 4, 1);
        Due.is("with an order", x.plan(0, 1, 10), 10 * 4 + 6 * 2);
        Due.is("not done", x.ordered(0), 0);
        choices(x, 4, 0, 5, 1);
        x.deed(4, 1);
        Due.is("ahead of an order", x.plan(0, 1, 10), 10 * 4 + 10 * 2);
        planned(x, 0);
    }

    private static void atMostFourDeeds() {
        DarkLand x = new DarkLand();
        x.node(0);
        x.plant(1, 0, 300, 40);
        for (int l = 0; l < 5; l++) {
            x.load(0, 3, l);
        }
        x.deed(2, 0);
        x.run(1);
        choices(x, 4, 0, 4, 1, 4, 2, 4, 3, 4, 4);
        Due.is("plan", x.plan(0, 1, 20), 20 * 5 + 19 * 4 + 18 * 3 + 17 * 2);
        planned(x, 4, 3, 2, 1);
    }

    /** An order undoes what is done ahead of the first minute, so that it would have to be done once more. */
    private static void choicesOnce() {
        DarkLand x = land();
        x.room(0, 0);
        Tape.read(x, "when 1;");
        x.order(0, 1, 5, 0);
        choices(x, 4, 0);
        Due.is("a choice is made once", x.plan(0, 1, 10), 0);
        planned(x, 0);
        choices(x, 4, 0, 4, 0);
        Due.is("another choice, of a like deed", x.plan(0, 1, 10), 9 * 2);
        planned(x, 0, 1);
    }

    /** A plant that has warmed for 4 of 5 minutes is on just ahead of the STOP of the dam that warms it. */
    private static void warmingBeside() {
        DarkLand x = land();
        x.plant(0, 0, 300, 40);
        x.room(0, 0);
        Tape.read(x, "when minute = 6;");
        x.order(0, 1, 3, 0);
        x.deed(4, 0);
        x.deed(2, 1);
        x.run(4);
        Due.is("warmed", x.plantTold(1, 3), 4);
        Due.is("lit beside", x.beside(5, 0), 1);
        choices(x, 4, 1);
        Due.is("plan", x.plan(0, 1, 10), 10 * 2 + 10 * 4);
        x.run(5);
        Due.is("the dam is off", x.plantTold(0, 1), 0);
        Due.is("lit", x.loadTold(0, 1), 1);
    }

    private static void beside() {
        DarkLand x = land();
        Due.is("beside(0, 3)", x.beside(0, 3), BAD);
        Due.is("beside(101, 0)", x.beside(101, 0), BAD);
        Due.is("beside(-1, 0)", x.beside(-1, 0), BAD);
        Due.is("beside(1, -1)", x.beside(1, -1), BAD);
        Due.is("beside(1, 3)", x.beside(1, 3), BAD);
        x.deed(4, 0);
        x.deed(4, 2);
        Due.is("lit", x.beside(1, 0), 1);
        Due.is("falls", x.beside(100, 1), 0);
        Due.is("worth", x.beside(100, 2), 200);
        x.deed(0, 0);
        Due.is("lit", x.beside(1, 0), 2);
        Due.is("worth", x.beside(7, 2), 7 * 12);
        x.run(3);
        Due.is("worth from now on", x.beside(7, 2), 7 * 12);
        x.line(1, 0, 60, 0);
        x.deed(0, 1);
        Due.is("falls", x.beside(100, 1), 1);
        Due.is("lit", x.beside(100, 0), 0);
        Due.is("worth", x.beside(100, 2), 0);
        x.run(1);
        Due.is("the fall came", x.count(10), 1);
        Due.is("no more", x.beside(100, 1), 0);
        for (int i = 0; i < 5; i++) {
            x.run(100);
        }
        Due.is("beside(95, 0)", x.beside(95, 0), 0);
        Due.is("beside(96, 0)", x.beside(96, 0), FULL);
        Due.is("beside(101, 0)", x.beside(101, 0), BAD);
        Due.is("beside(96, 3)", x.beside(96, 3), BAD);
        x.run(95);
        Due.is("beside(1, 0)", x.beside(1, 0), FULL);
    }

    private static void besideChangesNothing() {
        DarkLand x = land();
        x.room(0, 0);
        x.crew(0);
        x.order(0, 0, 4, 1);
        x.line(0, 1, 60, 0);
        x.order(0, 0, 0, 1);
        x.order(0, 0, 0, 0);
        x.go(0, 1);
        x.deed(4, 0);
        Due.is("a fall", x.beside(30, 1), 1);
        Due.is("no fall", x.fall(0, 0), NONE);
        Due.is("no falls", x.count(10), 0);
        Due.is("minute", x.count(0), 1);
        Due.is("order", x.ordered(0), 0);
        Due.is("line", x.lineTold(1), 0);
        Due.is("crew", x.crewTold(0, 1), 10);
        Due.is("dam", x.plantTold(0, 1), 2);
        Due.is("out", x.plantTold(0, 2), 0);
        Due.is("lit", x.nodeTold(0, 0), 1);
        Due.is("held", x.nodeTold(0, 5), 1);
        Due.is("served", x.loadTold(0, 3), 0);
        Due.is("dark", x.loadTold(0, 4), 1);
        Due.is("draw", x.loadTold(0, 2), 20);
        Due.is("kept", x.sees(0, 0, 3, 1), 1);
        Due.is("not kept", x.sees(0, 1, 3, 1), NO);
        x.run(29);
        Due.is("kept as it was", x.sees(0, 0, 3, 1), 1);
        Due.is("then it came", x.count(10), 1);
    }
}
