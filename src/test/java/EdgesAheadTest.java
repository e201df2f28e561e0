import java.util.function.Consumer;
import java.util.function.IntFunction;
import java.util.function.ToLongFunction;

/** Terms 5 and promises 25 to 27, a test for each sentence that names a boundary. */
public final class EdgesAheadTest {
    private static final int BAD = DarkLand.BAD, NONE = DarkLand.NONE, FULL = DarkLand.FULL;
    private static final long NO = DarkLand.NO;
    private static final int LEAST = Integer.MIN_VALUE, MOST = Integer.MAX_VALUE;
    private static final int CLOSE = 0, OPEN = 1, START = 2, STOP = 3, LIGHT = 4, DIM = 5;

    public static void main(String[] args) {
        planOfNoSheet();
        planOfAMissingSheet();
        planOfASheetsSize();
        planOfADeedThatIsNone();
        planOfAGap();
        planOfMinutes();
        minutesAboveThreeGaps();
        planBeyondTheEnd();
        planOfAnySort();
        planLeavesTheLand();
        planOfWhatThereIsNone();
        plannedAtFirst();
        plannedOfNone();
        plannedBehindARefusal();
        plannedWhenThereIsNone();
        rowsOfOneToFour();
        unlikeChoices();
        doneAheadOfMinutes();
        eachDeedCanBeDone();
        noIslandFalls();
        worthByRank();
        fewestDeeds();
        firstByNumbers();
        besideOfMinutes();
        besideOfWhat();
        besideBeyondTheEnd();
        besideChangesNothing();
        besideGoesOn();
        besideOfIslandsAsTheyAre();
        besideOfSwingAsItIs();
        besideOfPlantsAsTheyWarmed();
        besideOfPlantsAsTheyFell();
        besideOfLoadsAsTheyWereDark();
        besideOfWhatIsKept();
        besideOfCrewsWhereTheyAre();
        besideOfOrdersThatAreDone();
        besideBehindOthers();
        besideOfLoads();
        besideOfFalls();
        besideOfWorth();
        Due.end();
    }

    private static void refused(String call, int[] bad, IntFunction<ToLongFunction<DarkLand>> of, long due) {
        for (int v : bad) {
            Twins.refuses(call + " " + v, of.apply(v), due);
        }
    }

    /** A dam of 300 and weight 40 on at node 0 at minute 1, a line of 25 to node 1; at 0 loads of so much and RANKS. */
    private static DarkLand land(int draw, int... ranks) {
        DarkLand x = new DarkLand();
        x.node(0);
        x.node(10);
        x.line(0, 1, 25, 0);
        x.plant(1, 0, 300, 40);
        for (int rank : ranks) {
            x.load(0, draw, rank);
        }
        x.deed(START, 0);
        x.run(1);
        return x;
    }

    private static void choices(DarkLand x, int... cells) {
        Twins.sheet(x, 0, 2, cells);
    }

    private static void planned(DarkLand x, int... row) {
        Due.is("planned(-1)", x.planned(-1), row.length);
        for (int i = 0; i < 5; i++) {
            Due.is("planned(" + i + ")", x.planned(i), i < row.length ? row[i] : NONE);
        }
    }

    /** "NO: SHEET" */
    private static void planOfNoSheet() {
        refused("plan, SHEET", new int[] {-1, 4, LEAST, MOST}, s -> x -> x.plan(s, 1, 10), NO);
        for (int s = 0; s < 4; s++) {
            DarkLand x = land(1, 1);
            Twins.sheet(x, s, 2, LIGHT, 0);
            Due.is("plan by sheet " + s, x.plan(s, 1, 10), 20);
        }
    }

    /** "missing" */
    private static void planOfAMissingSheet() {
        Twins.refuses("plan by a missing sheet", x -> x.plan(3, 1, 10), NO);
        DarkLand x = land(1, 1);
        for (int s = 0; s < 4; s++) {
            Due.is("missing at first", x.plan(s, 1, 10), NO);
        }
        choices(x, LIGHT, 0);
        Due.is("there", x.plan(0, 1, 10), 20);
        x.sheet(0, -1, 2);
        Due.is("missing again", x.plan(0, 1, 10), NO);
    }

    /** "its size (2 .. 10, even)", "1 to 5 CHOICES" */
    private static void planOfASheetsSize() {
        Twins.refuses("a sheet of 0", x -> x.plan(2, 1, 10), NO);
        for (int size = 0; size <= 40; size++) {
            DarkLand x = land(1, 1);
            x.sheet(0, 2, size);
            for (int i = 0; i < size; i += 2) {
                x.cell(0, i, LIGHT);
            }
            boolean fits = size == 2 || size == 4 || size == 6 || size == 8 || size == 10;
            Due.is("a sheet of " + size, x.plan(0, 1, 10), fits ? 20 : NO);
            planned(x, fits ? new int[] {0} : new int[0]);
        }
    }

    /** "a DEED that is none": at whichever place. */
    private static void planOfADeedThatIsNone() {
        for (int place = 0; place < 5; place++) {
            for (int deed : new int[] {-1, 6, LEAST, MOST}) {
                int at = 2 * place;
                Consumer<DarkLand> sheet = x -> {
                    Twins.sheet(x, 3, 2, LIGHT, 1, LIGHT, 1, LIGHT, 1, LIGHT, 1, LIGHT, 1);
                    x.cell(3, at, deed);
                };
                Twins.refusesBehind(sheet, "DEED " + deed + " at " + at, x -> x.plan(3, 1, 10), NO);
            }
        }
        for (int deed = 0; deed < 6; deed++) {
            DarkLand x = land(1, 1);
            choices(x, deed, 0);
            Due.holds("DEED " + deed + " is one", x.plan(0, 1, 10) >= -1);
        }
    }

    /** "GAP 1 .. 10" */
    private static void planOfAGap() {
        refused("GAP", new int[] {0, -1, 11, LEAST, MOST}, g -> x -> x.plan(0, g, 40), NO);
        for (int gap : new int[] {1, 10}) {
            DarkLand x = land(1, 1, 1);
            choices(x, LIGHT, 0, LIGHT, 1);
            Due.is("GAP " + gap, x.plan(0, gap, 40), 80 + 80 - 2 * gap);
            planned(x, 0, 1);
        }
    }

    /** "n 1 .. 40" */
    private static void planOfMinutes() {
        refused("n", new int[] {0, -1, 41, LEAST, MOST}, n -> x -> x.plan(0, 1, n), NO);
        DarkLand x = land(1, 1);
        choices(x, LIGHT, 0);
        Due.is("n 40", x.plan(0, 1, 40), 80);
    }

    /** "n .., above 3 GAPS" */
    private static void minutesAboveThreeGaps() {
        for (int gap = 1; gap <= 10; gap++) {
            DarkLand x = land(1, 1);
            choices(x, LIGHT, 0);
            for (int n = 3 * gap - 1; n <= 3 * gap + 2; n++) {
                Due.is("GAP " + gap + ", n " + n, x.plan(0, gap, n), n > 3 * gap ? 2 * n : NO);
            }
        }
        Twins.refuses("n 3, GAP 1", x -> x.plan(0, 1, 3), NO);
        Twins.refuses("n 30, GAP 10", x -> x.plan(0, 10, 30), NO);
    }

    /** "beyond MINUTE 600" */
    private static void planBeyondTheEnd() {
        Consumer<DarkLand> late = x -> {
            for (int i = 0; i < 5; i++) {
                x.run(100);
            }
            x.run(80);
        };
        Twins.refusesBehind(late, "n 17 at 584", x -> x.plan(0, 1, 17), NO);
        Twins.refusesBehind(late, "n 40 at 584", x -> x.plan(0, 1, 40), NO);
        DarkLand x = land(1, 1);
        choices(x, LIGHT, 0);
        late.accept(x);
        Due.is("count(0)", x.count(0), 581);
        Due.is("n 20 at 581", x.plan(0, 1, 20), NO);
        Due.is("n 19 at 581", x.plan(0, 1, 19), 38);
        x.run(15);
        Due.is("n 5 at 596", x.plan(0, 1, 5), NO);
        Due.is("n 4 at 596", x.plan(0, 1, 4), 8);
        x.run(4);
        Due.is("at 600", x.plan(0, 1, 4), NO);
    }

    /** A SHEET of any sort will do. */
    private static void planOfAnySort() {
        for (int sort = 0; sort < 3; sort++) {
            DarkLand x = land(1, 1, 2);
            Twins.sheet(x, 1, sort, LIGHT, 1, LIGHT, 0);
            Due.is("sort " + sort, x.plan(1, 1, 10), 30 + 18);
            planned(x, 0, 1);
            x.cell(1, 0, 256 + LIGHT);
            Due.is("256 more, sort " + sort, x.plan(1, 1, 10), sort == 0 ? 48 : NO);
            x.cell(1, 0, 65536 + LIGHT);
            Due.is("65536 more, sort " + sort, x.plan(1, 1, 10), sort < 2 ? 48 : NO);
        }
    }

    /** "played BESIDE": nothing changes but what is planned. */
    private static void planLeavesTheLand() {
        // LIGHT of load 1: load 0 goes on; 4 and 10 in each of 9 minutes
        Twins.looks("plan(0, 2, 9)", x -> x.plan(0, 2, 9), 126);
        Consumer<DarkLand> stop = x -> Twins.sheet(x, 3, 2, STOP, 0, OPEN, 0, DIM, 0);
        DarkLand x = Twins.land();
        stop.accept(x);
        x.plan(3, 2, 9);
        Due.is("not stopped", x.plantTold(0, 1), 2);
        Due.is("not opened", x.lineTold(0), 1);
        Due.is("not dimmed", x.loadTold(0, 0), 1);
        Due.is("not played", x.count(0), 4);
    }

    /** Of what there is none: a DEED that can't be done. */
    private static void planOfWhatThereIsNone() {
        for (int deed = 0; deed < 6; deed++) {
            for (int what : new int[] {-1, 2, 20, LEAST, MOST}) {
                DarkLand x = land(1, 1);
                choices(x, deed, what);
                Due.is("DEED " + deed + " of " + what, x.plan(0, 1, 10), -1);
                planned(x);
            }
        }
    }

    /** "how many DEEDS (0 at first)" */
    private static void plannedAtFirst() {
        DarkLand x = land(1, 1);
        planned(x);
    }

    /** "CHOICE i of the PLAN that was found last; i = -1: how many DEEDS. NONE." */
    private static void plannedOfNone() {
        refused("planned", new int[] {-2, 1, 2, 3, 4, 5, LEAST, MOST}, i -> x -> x.planned(i), NONE);
        Twins.looks("planned(-1)", x -> x.planned(-1), 1);
        Twins.looks("planned(0)", x -> x.planned(0), 0);
        DarkLand x = land(1, 0, 0, 0, 0);
        choices(x, DIM, 0, LIGHT, 3, LIGHT, 2, LIGHT, 1, LIGHT, 0);
        Due.is("plan", x.plan(0, 1, 10), 10 + 9 + 8 + 7);
        planned(x, 1, 2, 3, 4);
        Due.is("planned(4)", x.planned(4), NONE);
        Due.is("planned(-2)", x.planned(-2), NONE);
    }

    /** NO is a refusal: the PLAN that was found last stays. */
    private static void plannedBehindARefusal() {
        DarkLand x = land(1, 1, 1);
        choices(x, LIGHT, 1, LIGHT, 0);
        x.plan(0, 1, 10);
        planned(x, 0, 1);
        x.plan(0, 0, 10);
        planned(x, 0, 1);
        x.plan(1, 1, 10);
        planned(x, 0, 1);
        x.plan(0, 1, 3);
        planned(x, 0, 1);
        choices(x, LIGHT, 1, 6, 0);
        x.plan(0, 1, 10);
        planned(x, 0, 1);
    }

    /** "-1: there is none (it has no DEEDS)" */
    private static void plannedWhenThereIsNone() {
        DarkLand x = land(1, 1, 1);
        choices(x, LIGHT, 1, LIGHT, 0);
        x.plan(0, 1, 10);
        planned(x, 0, 1);
        choices(x, DIM, 0, OPEN, 0);
        Due.is("none can be done", x.plan(0, 1, 10), -1);
        planned(x);
        choices(x, DIM, 0, LIGHT, 0);
        Due.is("one can", x.plan(0, 1, 10), 20);
        planned(x, 1);
        // what goes beyond the dam's ramp by far makes it fall
        choices(x, LIGHT, x.load(0, 999, 9));
        Due.is("it falls", x.plan(0, 1, 10), -1);
        planned(x);
    }

    /** "rows of 1 to 4": five would be better, and are not planned. */
    private static void rowsOfOneToFour() {
        DarkLand x = land(1, 0, 1, 2, 3, 4);
        int[] grows = {0, 50, 50 + 36, 50 + 36 + 24, 50 + 36 + 24 + 14};
        int[][] rows = {{}, {0}, {0, 1}, {0, 1, 2}, {0, 1, 2, 3}};
        for (int n = 1; n <= 5; n++) {
            int[] cells = new int[2 * n];
            for (int c = 0; c < n; c++) {
                cells[2 * c] = LIGHT;
                cells[2 * c + 1] = 4 - c;
            }
            choices(x, cells);
            Due.is("of " + n + " CHOICES", x.plan(0, 1, 10), grows[Math.min(n, 4)]);
            planned(x, rows[Math.min(n, 4)]);
        }
    }

    /** "unlike CHOICES": none comes twice in a row. */
    private static void unlikeChoices() {
        // an order dims what is lit, in the same minute: to be lit it would have to be chosen twice
        DarkLand x = land(1, 1);
        x.room(0, 0);
        Tape.read(x, "when 1;");
        x.order(0, 1, DIM, 0);
        choices(x, LIGHT, 0);
        Due.is("plan", x.plan(0, 1, 10), 0);
        planned(x, 0);
        choices(x, LIGHT, 0, OPEN, 0);
        Due.is("plan", x.plan(0, 1, 10), 0);
        planned(x, 0);
    }

    /** "the k-th (from 0) done ahead of the minute k times GAP from now" */
    private static void doneAheadOfMinutes() {
        for (int gap : new int[] {1, 2, 7, 10}) {
            DarkLand x = land(1, 3, 2, 1, 0);
            choices(x, LIGHT, 0, LIGHT, 1, LIGHT, 2, LIGHT, 3);
            int n = 3 * gap + 1;
            Due.is("GAP " + gap, x.plan(0, gap, n), 4 * n + 3 * (n - gap) + 2 * (n - 2 * gap) + n - 3 * gap);
            planned(x, 0, 1, 2, 3);
        }
        // a dam that comes on in minute 1 can be closed to ahead of minute 2 only, not ahead of minute 1
        for (int gap = 1; gap <= 2; gap++) {
            DarkLand x = new DarkLand();
            x.node(0);
            x.node(0);
            x.plant(1, 0, 100, 40);
            x.line(0, 1, 1, 0);
            x.load(1, 1, 0);
            x.deed(LIGHT, 0);
            choices(x, START, 0, CLOSE, 0);
            Due.is("GAP " + gap, x.plan(0, gap, 8), 8 - gap);
            planned(x, 0, 1);
        }
    }

    /** "those of which each DEED can be done": a row with one that can't be is none, though the rest could. */
    private static void eachDeedCanBeDone() {
        DarkLand x = land(1, 1, 1);
        choices(x, OPEN, 0, LIGHT, 0);
        Due.is("without the OPEN", x.plan(0, 1, 10), 20);
        planned(x, 1);
        choices(x, LIGHT, 0, LIGHT, 0, DIM, 1);
        Due.is("without a second LIGHT", x.plan(0, 1, 10), 20);
        planned(x, 0);
        choices(x, OPEN, 0, CLOSE, 0);
        Due.is("CLOSE alone is fewest", x.plan(0, 1, 10), 0);
        planned(x, 1);
        // it could be done as the plan is told, but no more when its minute comes: the crew is gone by then
        DarkLand y = land(1, 1);
        y.load(1, 1, 9);
        y.line(0, 1, 0, 1);
        y.crew(0);
        y.room(0, 0);
        Tape.read(y, "when minute = 2;");
        y.order(0, 1, STOP, 0);
        choices(y, LIGHT, 0, CLOSE, 1, LIGHT, 1);
        Due.is("dark from minute 2 on", y.plan(0, 1, 10), 2);
        planned(y, 0);
    }

    /** "no ISLAND FALLS": not in the first of the n minutes and not in the last, whichever island it is. */
    private static void noIslandFalls() {
        for (int n = 8; n <= 12; n++) {
            DarkLand x = land(1, 1);
            x.load(0, 999, 0);
            x.room(0, 0);
            Tape.read(x, "when minute = 10;");
            x.order(0, 1, LIGHT, 1);
            choices(x, LIGHT, 0);
            // from minute 1 on n minutes: the last is minute n, and in minute 10 it falls
            Due.is("n " + n, x.plan(0, 1, n), n < 10 ? 2 * n : -1);
            planned(x, n < 10 ? new int[] {0} : new int[0]);
        }
        DarkLand x = land(1, 1);
        x.load(0, 999, 0);
        choices(x, LIGHT, 1, DIM, 1, LIGHT, 0);
        Due.is("it falls in the first minute", x.plan(0, 1, 10), 20);
        planned(x, 2);
        // an island that falls far from what is done
        DarkLand y = land(1, 1);
        y.plant(1, 1, 10, 1);
        y.load(1, 999, 0);
        y.deed(START, 1);
        y.run(1);
        y.deed(LIGHT, 1);
        choices(y, LIGHT, 0);
        Due.is("it falls elsewhere", y.plan(0, 1, 10), -1);
        planned(y);
        choices(y, LIGHT, 0, DIM, 1);
        Due.is("unless that is dimmed first", y.plan(0, 1, 10), 18);
        planned(y, 1, 0);
        // what fell before is nothing to it
        y.run(1);
        Due.is("FALLS", y.count(10), 1);
        choices(y, LIGHT, 0);
        Due.is("behind its fall", y.plan(0, 1, 10), 20);
    }

    /** "WORTH: of all LOADS SERVED times (RANK and 1)", "the one by which WORTH grows most" */
    private static void worthByRank() {
        for (int rank = 0; rank < 10; rank++) {
            DarkLand x = land(1, rank);
            choices(x, LIGHT, 0);
            Due.is("RANK " + rank, x.plan(0, 1, 10), 10 * (rank + 1));
        }
        DarkLand x = land(1, 0, 9, 4);
        choices(x, LIGHT, 0, LIGHT, 2, LIGHT, 1);
        Due.is("the highest first", x.plan(0, 2, 7), 70 + 25 + 3);
        planned(x, 2, 1, 0);
        // what is served already grows too, but not what was served before
        x.deed(LIGHT, 1);
        x.run(5);
        choices(x, LIGHT, 0);
        Due.is("by how much it grows", x.plan(0, 2, 7), 70 + 7);
    }

    /** "of like ones with the fewest DEEDS": also if a longer one comes first by numbers. */
    private static void fewestDeeds() {
        DarkLand x = land(1, 1);
        choices(x, CLOSE, 0, LIGHT, 0, OPEN, 0);
        Due.is("LIGHT alone", x.plan(0, 1, 10), 20);
        planned(x, 1);
        choices(x, CLOSE, 0, OPEN, 0);
        Due.is("no more than one", x.plan(0, 1, 10), 0);
        planned(x, 0);
        // an order lights it in minute 3 and dims it never: by a DIM and a LIGHT nothing is won
        x.deed(LIGHT, 0);
        choices(x, DIM, 0, CLOSE, 0);
        Due.is("what keeps it lit", x.plan(0, 1, 10), 20);
        planned(x, 1);
    }

    /** "of these the first by numbers": of the CHOICES, not of the DEEDS. */
    private static void firstByNumbers() {
        DarkLand x = land(1, 1, 1, 1);
        choices(x, LIGHT, 2, LIGHT, 1, LIGHT, 0);
        Due.is("three that are like", x.plan(0, 1, 10), 20 + 18 + 16);
        planned(x, 0, 1, 2);
        choices(x, LIGHT, 1, LIGHT, 1);
        Due.is("two that are like", x.plan(0, 1, 10), 20);
        planned(x, 0);
        choices(x, DIM, 0, LIGHT, 0, LIGHT, 0, LIGHT, 1, LIGHT, 1);
        Due.is("pairs that are like", x.plan(0, 1, 10), 20 + 18);
        planned(x, 1, 3);
    }

    /** "n minutes (1 .. 100) on", "BAD" */
    private static void besideOfMinutes() {
        for (int what = 0; what < 3; what++) {
            int w = what;
            refused("beside, n", new int[] {0, -1, 101, LEAST, MOST}, n -> x -> x.beside(n, w), BAD);
        }
        DarkLand x = land(1, 1);
        x.deed(LIGHT, 0);
        Due.is("n 1", x.beside(1, 2), 2);
        Due.is("n 100", x.beside(100, 2), 200);
    }

    private static void besideOfWhat() {
        refused("beside, what", new int[] {-1, 3, LEAST, MOST}, w -> x -> x.beside(1, w), BAD);
    }

    /** "FULL: beyond 600", behind BAD. */
    private static void besideBeyondTheEnd() {
        Consumer<DarkLand> late = x -> {
            for (int i = 0; i < 5; i++) {
                x.run(100);
            }
            x.run(80);
        };
        for (int what = 0; what < 3; what++) {
            int w = what;
            Twins.refusesBehind(late, "beside(17, " + w + ") at 584", x -> x.beside(17, w), FULL);
        }
        Twins.refusesBehind(late, "beside(100, 0) at 584", x -> x.beside(100, 0), FULL);
        Twins.refusesBehind(late, "n ahead of FULL", x -> x.beside(101, 0), BAD);
        Twins.refusesBehind(late, "what ahead of FULL", x -> x.beside(17, 3), BAD);
        DarkLand x = land(1, 1);
        x.deed(LIGHT, 0);
        late.accept(x);
        Due.is("beside(19, 2) at 581", x.beside(19, 2), 38);
        Due.is("beside(20, 2) at 581", x.beside(20, 2), FULL);
        x.run(19);
        Due.is("beside(1, 0) at 600", x.beside(1, 0), FULL);
        Due.is("beside(0, 0) at 600", x.beside(0, 0), BAD);
    }

    /** "BESIDE: .. nothing changes." */
    private static void besideChangesNothing() {
        for (int n : new int[] {1, 5, 40, 100}) {
            // the crew comes to node 0, order 1 lights load 1 in minute 8, load 2 stays dark
            Twins.looks("beside(" + n + ", 0)", x -> x.beside(n, 0), n < 5 ? 1 : 2);
            Twins.looks("beside(" + n + ", 1)", x -> x.beside(n, 1), 0);
            Twins.looks("beside(" + n + ", 2)", x -> x.beside(n, 2), n < 5 ? 4 : 4 * n + 10 * (n - 4));
        }
    }

    /** "what would be, if nothing more is told": crews, orders, plants go on. */
    private static void besideGoesOn() {
        DarkLand x = new DarkLand();
        x.node(0);
        x.node(6);
        x.plant(1, 0, 300, 40);
        x.line(0, 1, 5, 1);
        x.load(1, 1, 0);
        x.crew(1);
        x.room(0, 0);
        Tape.read(x, "when 3 < minute;");
        x.order(0, 1, CLOSE, 0);
        x.deed(START, 0);
        x.deed(LIGHT, 0);
        x.go(0, 0);
        // there in minute 5, so that minute 5 is the first in which it is lit
        int[] lit = {0, 0, 0, 0, 0, 1, 1};
        for (int n = 1; n <= 7; n++) {
            Due.is("beside(" + n + ", 0)", x.beside(n, 0), lit[n - 1]);
            Due.is("beside(" + n + ", 2)", x.beside(n, 2), Math.max(0, n - 5));
        }
        x.run(6);
        Due.is("then it is so", x.loadTold(0, 3), 1);
    }

    /** How many FALLS come in one minute, by beside and by a plan of a DEED that does nothing to it. */
    private static void fallsNext(String as, DarkLand x, int falls) {
        Due.is("FALLS beside, as " + as, x.beside(1, 1), falls);
        int l = x.load(x.node(0), 1, 0);
        Twins.sheet(x, 3, 2, LIGHT, l);
        Due.is("a plan, as " + as, x.plan(3, 1, 4), falls > 0 ? -1 : x.beside(4, 2));
        x.run(1);
        Due.is("FALLS, as " + as, x.count(10), falls);
    }

    /** "what would be": of the land as it is; what is closed hangs together. */
    private static void besideOfIslandsAsTheyAre() {
        DarkLand x = land(1, 1);
        x.deed(CLOSE, 0);
        int l = x.load(1, 100, 0);
        x.deed(LIGHT, l);
        fallsNext("a load hangs by a line", x, 1);
    }

    /** The same of SWING: a minute more of what lacks is too much; and of how long a load is lit, and that it is cold. */
    private static void besideOfSwingAsItIs() {
        DarkLand x = new DarkLand();
        x.node(0);
        x.plant(1, 0, 30, 10);
        x.load(0, 27, 0);
        x.deed(START, 0);
        x.run(1);
        x.deed(LIGHT, 0);
        x.run(1);
        // 54 drawn, 30 put out: -24, less a fourth; then 51: -39, less a fourth
        Due.is("SWING", x.nodeTold(0, 2), -18);
        fallsNext("it swings, and is cold", x, 1);
    }

    /** A plant that comes on beside in its fifth minute helps the small dam out. */
    private static DarkLand warmed(int kind, int from) {
        DarkLand x = new DarkLand();
        x.node(0);
        x.plant(1, 0, 5, 1);
        x.plant(kind, 0, 19, 9);
        x.load(0, 4, 0);
        x.deed(START, 0);
        x.run(1);
        if (from > 1) {
            x.run(from - 1);
            x.deed(START, 1);
            x.deed(STOP, 1);
        }
        x.deed(START, 1);
        x.run(4);
        Due.is("WARMED", x.plantTold(1, 3), 4);
        x.deed(LIGHT, 0);
        return x;
    }

    private static void besideOfPlantsAsTheyWarmed() {
        fallsNext("it has warmed for 4", warmed(0, 1), 0);
        DarkLand x = warmed(0, 1);
        x.deed(STOP, 1);
        x.deed(START, 1);
        fallsNext("it has to warm anew", x, 1);
    }

    private static void besideOfPlantsAsTheyFell() {
        fallsNext("it fell but 4 minutes ago", warmed(2, 90), 0);
        DarkLand x = warmed(2, 1);
        fallsNext("it never fell", x, 0);
    }

    private static void besideOfLoadsAsTheyWereDark() {
        for (int dark = 29; dark <= 30; dark++) {
            DarkLand x = new DarkLand();
            x.node(0);
            x.plant(1, 0, 400, 10);
            int[] draws = {15, 15, 29};
            for (int l = 0; l < 3; l++) {
                x.load(0, draws[l], 0);
            }
            x.deed(START, 0);
            x.run(1);
            for (int l = 0; l < 2; l++) {
                x.deed(LIGHT, l);
                x.run(11);
            }
            x.deed(DIM, 0);
            x.run(1);
            x.deed(DIM, 1);
            x.run(1);
            x.deed(LIGHT, 0);
            x.deed(LIGHT, 1);
            x.run(1);
            x.deed(DIM, 0);
            x.deed(DIM, 1);
            x.run(dark);
            Due.is("level", x.nodeTold(0, 2), 0);
            x.deed(LIGHT, 0);
            x.deed(LIGHT, 1);
            // 30, or 60 as both come back cold: the dam follows by 30
            fallsNext("dark for " + dark, x, dark == 30 ? 1 : 0);
        }
    }

    private static void besideOfWhatIsKept() {
        for (int late : new int[] {0, 2, 9, 30}) {
            for (int at : new int[] {31, 40, 64, 75}) {
                DarkLand x = land(1, 1);
                x.room(0, late);
                x.run(at - 2);
                // held is as the minute and 1
                Tape.read(x, "when held = " + (at - late) + ";");
                x.order(0, 1, LIGHT, 0);
                x.run(1);
                Due.is("count(0)", x.count(0), at);
                Due.is("beside, " + late + " late at " + at, x.beside(1, 0), 1);
                x.deed(STOP, 0);
                x.deed(START, 0);
                Due.is("beside, " + late + " late at " + at, x.beside(1, 0), 1);
                x.falseSign(0, at - 1 - late, 3, 999);
                Due.is("beside a false sign", x.beside(1, 0), 0);
                x.mend(0);
                x.run(1);
                Due.is("done", x.ordered(0), 1);
            }
        }
    }

    private static void besideOfCrewsWhereTheyAre() {
        DarkLand x = land(1, 1);
        x.node(12);
        x.line(1, 2, 0, 1);
        x.load(2, 1, 0);
        x.deed(CLOSE, 0);
        x.deed(LIGHT, 1);
        x.room(0, 0);
        Tape.read(x, "when 1;");
        x.order(0, 1, CLOSE, 1);
        x.crew(0);
        Due.is("none there", x.beside(100, 0), 0);
        x.go(0, 1);
        // 10 minutes on its way, that begin with this one: there in the tenth
        for (int n = 9; n <= 10; n++) {
            Due.is("beside " + n, x.beside(n, 0), n == 10 ? 1 : 0);
        }
        x.run(6);
        Due.is("a minute short", x.beside(3, 0), 0);
        Due.is("there", x.beside(4, 0), 1);
        DarkLand y = land(1, 1);
        y.node(12);
        y.line(1, 2, 0, 1);
        y.load(2, 1, 0);
        y.deed(CLOSE, 0);
        y.deed(LIGHT, 1);
        y.room(0, 0);
        y.crew(0);
        y.go(0, 1);
        y.run(10);
        Tape.read(y, "when 1;");
        y.order(0, 1, CLOSE, 1);
        Due.is("a crew that went there", y.beside(1, 0), 1);
    }

    private static void besideOfOrdersThatAreDone() {
        DarkLand x = land(1, 1);
        x.room(0, 0);
        Tape.read(x, "when 1;");
        x.order(0, 1, LIGHT, 0);
        x.run(1);
        x.deed(DIM, 0);
        Due.is("it isn't done again", x.beside(5, 0), 0);
        x.order(0, 1, LIGHT, 0);
        Due.is("another is", x.beside(5, 0), 1);
        Due.is("and is not done by that", x.ordered(1), 0);
    }

    /** What was played beside is nothing to what is played beside next. */
    private static void besideBehindOthers() {
        DarkLand x = land(1, 1, 2);
        x.deed(LIGHT, 0);
        long[] due = {1, 0, 6};
        for (int i = 0; i < 3; i++) {
            for (int what = 0; what < 3; what++) {
                Due.is("beside(3, " + what + ")", x.beside(3, what), due[what]);
                x.beside(50 + i, what);
                choices(x, STOP, 0, LIGHT, 1);
                Due.is("plan", x.plan(0, 1, 10), 20 + 30);
            }
        }
    }

    /** "0 how many LOADS are lit then": in the last of the minutes, not now and not between. */
    private static void besideOfLoads() {
        DarkLand x = land(1, 1, 1, 1);
        Due.is("none", x.beside(3, 0), 0);
        x.deed(LIGHT, 0);
        x.deed(LIGHT, 1);
        x.run(1);
        Due.is("two", x.beside(3, 0), 2);
        x.deed(DIM, 0);
        Due.is("one", x.beside(3, 0), 1);
        x.deed(STOP, 0);
        Due.is("none", x.beside(1, 0), 0);
        DarkLand y = land(1, 1, 1, 1, 1, 1, 1, 1, 1, 1, 1, 1, 1);
        for (int l = 0; l < 12; l++) {
            y.deed(LIGHT, l);
        }
        Due.is("all twelve", y.beside(1, 0), 12);
    }

    /** "1 how many FALLS come": not those that came; more than 20 too. */
    private static void besideOfFalls() {
        DarkLand x = new DarkLand();
        for (int n = 0; n < 8; n++) {
            x.node(0);
            x.plant(1, n, 100, 1);
            x.load(n, 90, 0);
            x.deed(LIGHT, n);
            x.deed(START, n);
        }
        x.room(0, 0);
        Tape.read(x, "when 1;");
        for (int k = 0; k < 16; k++) {
            x.order(0, 1, START, k % 8);
        }
        // all 8 fall at once; then their orders start them anew, twice
        Due.is("in one minute", x.beside(1, 1), 8);
        Due.is("in two", x.beside(2, 1), 16);
        Due.is("in three", x.beside(3, 1), 24);
        Due.is("in a hundred", x.beside(100, 1), 24);
        Due.is("none came", x.count(10), 0);
        x.run(2);
        Due.is("of those two came", x.count(10), 16);
        Due.is("but these are to come", x.beside(1, 1), 8);
        x.run(1);
        Due.is("all came", x.count(10), 24);
        Due.is("none are to come", x.beside(100, 1), 0);
    }

    /** "2 by how much WORTH grows": from now on, by RANK and 1. */
    private static void besideOfWorth() {
        DarkLand x = land(1, 0, 9, 4);
        Due.is("nothing", x.beside(10, 2), 0);
        x.deed(LIGHT, 0);
        Due.is("RANK 0", x.beside(10, 2), 10);
        x.deed(LIGHT, 1);
        x.run(10);
        Due.is("RANKS 0 and 9", x.beside(10, 2), 110);
        x.deed(LIGHT, 2);
        Due.is("RANKS 0, 9 and 4", x.beside(1, 2), 16);
        x.deed(STOP, 0);
        Due.is("dark", x.beside(100, 2), 0);
    }
}
