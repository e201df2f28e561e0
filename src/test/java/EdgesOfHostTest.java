import java.util.function.Consumer;
import java.util.function.IntFunction;
import java.util.function.ToLongFunction;

/** Promises 31 to 35, a test for each sentence that names a boundary. */
public final class EdgesOfHostTest {
    private static final int BAD = DarkLand.BAD;
    private static final int MISSING = -11, OUTSIDE = -12, OTHER = -13, BELOW = -14;
    private static final int LEAST = Integer.MIN_VALUE, MOST = Integer.MAX_VALUE;
    private static final int[] NO_SHEET = {-1, 4, LEAST, MOST};

    public static void main(String[] args) {
        sheetsOfNone();
        sortsOfSheets();
        sizesOfSheets();
        sheetsThatGoMissing();
        sheetsAreMissingAtFirst();
        sheetsAreZeroAnew();
        sheetsAreApart();
        cellsOfNoSheet();
        cellsOfAMissingSheet();
        cellsOutside();
        cellsWrap();
        copyOfNoSheet();
        copyOfAMissingSheet();
        copyOfUnlikeSorts();
        copyOutside();
        copyOfNothing();
        copyOfAll();
        copyWithin();
        copyLeavesTheFirst();
        linesOfNoSheet();
        linesOfASort();
        linesOfANumber();
        linesOfAMissingSheet();
        linesOfAnotherSort();
        linesOutside();
        linesAheadOfOutsideCome();
        linesFourByFour();
        linesThatAreLeftOut();
        linesWhenFull();
        takenForNoKind();
        takenOfNoPlant();
        takenForAKind();
        Due.end();
    }

    private static void refused(String call, int[] bad, IntFunction<ToLongFunction<DarkLand>> of, long due) {
        for (int v : bad) {
            Twins.refuses(call + " " + v, of.apply(v), due);
        }
    }

    private static DarkLand land(int nodes) {
        DarkLand x = new DarkLand();
        for (int n = 0; n < nodes; n++) {
            x.node(0);
        }
        return x;
    }

    /** "BAD: SHEET" */
    private static void sheetsOfNone() {
        refused("SHEET", NO_SHEET, s -> x -> x.sheet(s, 0, 1), BAD);
        refused("SHEET, missing", NO_SHEET, s -> x -> x.sheet(s, -1, 1), BAD);
        refused("SHEET ahead of -14", NO_SHEET, s -> x -> x.sheet(s, 0, -1), BAD);
        for (int s = 0; s < 4; s++) {
            Due.is("sheet " + s, new DarkLand().sheet(s, 0, 1), 1);
        }
    }

    /** "of sort 0 bytes, 1 shorts, 2 ints"; "missing (sort -1)"; "BAD: .. sort" */
    private static void sortsOfSheets() {
        refused("sort", new int[] {-2, 3, LEAST, MOST}, sort -> x -> x.sheet(0, sort, 1), BAD);
        refused("sort ahead of -14", new int[] {-2, 3, LEAST, MOST}, sort -> x -> x.sheet(0, sort, -1), BAD);
        for (int sort = 0; sort < 3; sort++) {
            Due.is("sort " + sort, Twins.land().sheet(0, sort, 1), 1);
        }
    }

    /** "40 at most"; "BAD: .. n above 40; -14" */
    private static void sizesOfSheets() {
        for (int sort = 0; sort < 3; sort++) {
            int of = sort;
            refused("n of sort " + sort, new int[] {41, MOST}, n -> x -> x.sheet(0, of, n), BAD);
            refused("n of sort " + sort, new int[] {-1, LEAST}, n -> x -> x.sheet(0, of, n), BELOW);
            DarkLand x = new DarkLand();
            for (int n : new int[] {0, 1, 39, 40}) {
                Due.is("n " + n, x.sheet(1, sort, n), 1);
                Due.is("the last", x.cell(1, n - 1, 1), n == 0 ? OUTSIDE : 1);
                Due.is("one more", x.cell(1, n, 1), OUTSIDE);
            }
        }
    }

    /** "or missing (sort -1: n does not matter): 1" */
    private static void sheetsThatGoMissing() {
        for (int n : new int[] {0, 1, -1, 40, 41, LEAST, MOST}) {
            DarkLand x = new DarkLand();
            x.sheet(2, 1, 5);
            Due.is("there", x.cell(2, 0, 1), 1);
            Due.is("missing, n " + n, x.sheet(2, -1, n), 1);
            Due.is("missing", x.cell(2, 0, 1), MISSING);
            Due.is("missing again", x.sheet(2, -1, n), 1);
            Due.is("missing", x.cell(2, 0, 1), MISSING);
        }
    }

    /** "SHEETS 0 .. 3 are rows of numbers, or missing (as all are at first)" */
    private static void sheetsAreMissingAtFirst() {
        DarkLand x = land(2);
        for (int s = 0; s < 4; s++) {
            Due.is("cell", x.cell(s, 0, 0), MISSING);
            Due.is("copy", x.copy(s, 0, s, 0, 0), MISSING);
            Due.is("lines", x.lines(s, 0, 0, 0), MISSING);
            Due.is("plan", x.plan(s, 1, 10), DarkLand.NO);
        }
    }

    /** "becomes a row of n of a sort, all 0": whatever it was. */
    private static void sheetsAreZeroAnew() {
        for (int was = 0; was < 3; was++) {
            for (int sort = 0; sort < 3; sort++) {
                for (int gone = 0; gone < 2; gone++) {
                    DarkLand x = land(2);
                    x.sheet(0, was, 40);
                    for (int i = 0; i < 40; i++) {
                        x.cell(0, i, 77);
                    }
                    if (gone == 1) {
                        x.sheet(0, -1, 0);
                    }
                    x.sheet(0, sort, 40);
                    for (int l = 0; l < 10; l++) {
                        x.cell(0, 4 * l + 1, 1);
                    }
                    // 77 would be no NODE and no MANUAL; a CHARGE of 77 is told by VOLTS
                    Due.is("all come", x.lines(0, sort, 0, 10), 10);
                    x.plant(1, 0, 9, 9);
                    x.deed(2, 0);
                    x.run(1);
                    for (int l = 0; l < 10; l++) {
                        Due.is("CLOSE", x.deed(0, l), 1);
                    }
                    x.run(1);
                    Due.is("VOLTS", x.nodeTold(1, 3), -10);
                }
            }
        }
        // made smaller and larger again
        DarkLand y = land(2);
        y.sheet(0, 2, 4);
        y.cell(0, 3, 7);
        y.sheet(0, 2, 1);
        y.sheet(0, 2, 4);
        y.cell(0, 1, 1);
        Due.is("what was cut off is 0", y.lines(0, 2, 0, 1), 1);
    }

    /** Each of the four is by itself. */
    private static void sheetsAreApart() {
        DarkLand x = land(5);
        for (int s = 0; s < 4; s++) {
            x.sheet(s, 2, 4 + s);
            x.cell(s, 1, s + 1);
        }
        for (int s = 0; s < 4; s++) {
            Due.is("the last of " + s, x.cell(s, 3 + s, 0), 1);
            Due.is("one more of " + s, x.cell(s, 4 + s, 0), OUTSIDE);
            Due.is("line of " + s, x.lines(s, 2, 0, 1), 1);
        }
        x.plant(1, 0, 9, 9);
        x.deed(2, 0);
        x.run(1);
        for (int l = 0; l < 4; l++) {
            Due.is("CLOSE", x.deed(0, l), 1);
            Due.is("to its own node", x.nodeTold(l + 1, 1), 0);
        }
        x.sheet(1, -1, 0);
        Due.is("missing", x.cell(1, 0, 0), MISSING);
        Due.is("there", x.cell(0, 0, 0) + x.cell(2, 0, 0) + x.cell(3, 0, 0), 3);
    }

    /** cell: "BAD: SHEET; -11; -12." */
    private static void cellsOfNoSheet() {
        refused("SHEET", NO_SHEET, s -> x -> x.cell(s, 0, 1), BAD);
        refused("SHEET ahead of a place", NO_SHEET, s -> x -> x.cell(s, -1, 1), BAD);
    }

    private static void cellsOfAMissingSheet() {
        Twins.refuses("cell(3, 0, 1)", x -> x.cell(3, 0, 1), MISSING);
        Twins.refuses("cell(3, -1, 1): -11 ahead of -12", x -> x.cell(3, -1, 1), MISSING);
        Twins.refuses("cell(3, 40, 1): -11 ahead of -12", x -> x.cell(3, 40, 1), MISSING);
    }

    private static void cellsOutside() {
        refused("place", new int[] {-1, 6, 7, 40, LEAST, MOST}, i -> x -> x.cell(0, i, 1), OUTSIDE);
        refused("place of a sheet of 0", new int[] {-1, 0, 1, LEAST, MOST}, i -> x -> x.cell(2, i, 1), OUTSIDE);
        Due.is("the first", Twins.land().cell(0, 0, 1), 1);
        Due.is("the last", Twins.land().cell(0, 5, 1), 1);
    }

    /** "(of bytes, shorts its lowest 8, 16 bits)" */
    private static void cellsWrap() {
        int[][] least = {{256, -256, 512, 0x7fffff00, LEAST}, {65536, -65536, 0x7fff0000, LEAST}, {0}};
        int[][] more = {{128, 255, -1, -128, 127}, {32768, 65535, 256, -256, 128, -1, -32768, 32767}, {65536, 256, LEAST, MOST, -1}};
        for (int sort = 0; sort < 3; sort++) {
            for (int wrap : least[sort]) {
                for (int v : new int[] {0, 1, 99}) {
                    Due.is(wrap + v + " of sort " + sort, charged(sort, wrap + v), v);
                }
            }
            for (int v : more[sort]) {
                Due.is(v + " of sort " + sort, charged(sort, v), DarkLand.NO);
            }
        }
    }

    /** The CHARGE of a line from a sheet, told by VOLTS that two pumped soak up; NO if none came. */
    private static long charged(int sort, int cell) {
        DarkLand x = land(2);
        x.sheet(0, sort, 4);
        x.cell(0, 1, 1);
        x.cell(0, 2, cell);
        if (x.lines(0, sort, 0, 1) != 1) {
            return DarkLand.NO;
        }
        x.plant(3, 0, 999, 99);
        x.plant(3, 0, 999, 99);
        x.deed(2, 0);
        x.deed(2, 1);
        x.run(1);
        x.deed(0, 0);
        x.run(1);
        return x.nodeTold(1, 3) + 60;
    }

    /** copy: "BAD: SHEETS; -11; -13: unlike sorts; -12 (n below 0, too)." */
    private static void copyOfNoSheet() {
        refused("SHEET", NO_SHEET, s -> x -> x.copy(s, 0, 0, 0, 1), BAD);
        refused("other SHEET", NO_SHEET, s -> x -> x.copy(0, 0, s, 0, 1), BAD);
        refused("SHEET ahead of a missing other", NO_SHEET, s -> x -> x.copy(s, 0, 3, 0, 1), BAD);
        refused("other SHEET ahead of a missing one", NO_SHEET, s -> x -> x.copy(3, 0, s, 0, 1), BAD);
        refused("SHEETS", NO_SHEET, s -> x -> x.copy(s, 0, s, 0, -1), BAD);
    }

    private static void copyOfAMissingSheet() {
        Twins.refuses("from a missing one", x -> x.copy(3, 0, 0, 0, 1), MISSING);
        Twins.refuses("to a missing one", x -> x.copy(0, 0, 3, 0, 1), MISSING);
        Twins.refuses("of a missing one to itself", x -> x.copy(3, 0, 3, 0, 0), MISSING);
        Twins.refuses("-11 ahead of -12", x -> x.copy(3, -1, 0, 0, -1), MISSING);
        Twins.refuses("-11 ahead of -12", x -> x.copy(0, 99, 3, 99, 1), MISSING);
    }

    private static void copyOfUnlikeSorts() {
        for (int[] of : new int[][] {{0, 1}, {1, 0}, {0, 2}, {2, 0}, {1, 2}, {2, 1}}) {
            Twins.refuses("copy of unlike sorts", x -> x.copy(of[0], 0, of[1], 0, 1), OTHER);
            Twins.refuses("-13 ahead of -12", x -> x.copy(of[0], -1, of[1], 0, 1), OTHER);
            Twins.refuses("-13 ahead of -12", x -> x.copy(of[0], 0, of[1], 99, 1), OTHER);
            Twins.refuses("-13 ahead of -12", x -> x.copy(of[0], 0, of[1], 0, -1), OTHER);
            Twins.refuses("-13 of nothing", x -> x.copy(of[0], 0, of[1], 0, 0), OTHER);
        }
    }

    /** Sheet 0 of the Twins has 6 ints; sheet 3 is told 9. */
    private static void copyOutside() {
        Consumer<DarkLand> nine = x -> x.sheet(3, 2, 9);
        int[][] outside = {
            {-1, 0, 1}, {0, -1, 1}, {0, 0, -1}, {0, 0, 7}, {1, 0, 6}, {5, 0, 2}, {6, 0, 1}, {7, 0, 0}, {0, 10, 0}, {0, 9, 1}, {0, 4, 6},
            {-1, 0, 0}, {0, -1, 0}, {3, 3, -1}, {6, 9, -1}, {LEAST, 0, 1}, {0, LEAST, 1}, {0, 0, LEAST}, {MOST, 0, 1}, {0, MOST, 1},
            {0, 0, MOST}, {1, 0, MOST}, {0, 1, MOST}, {MOST, MOST, MOST}, {MOST, 0, MOST}, {LEAST, LEAST, LEAST}, {-1, -1, 3},
        };
        for (int[] of : outside) {
            Twins.refusesBehind(nine, "copy(0, " + of[0] + ", 3, " + of[1] + ", " + of[2] + ")", x -> x.copy(0, of[0], 3, of[1], of[2]), OUTSIDE);
        }
        for (int[] of : new int[][] {{0, 1, 6}, {1, 0, 6}, {6, 0, 1}, {0, 6, 1}, {2, 3, 4}, {3, 2, 4}}) {
            Twins.refuses("copy(0, " + of[0] + ", 0, " + of[1] + ", " + of[2] + ")", x -> x.copy(0, of[0], 0, of[1], of[2]), OUTSIDE);
        }
    }

    private static void copyOfNothing() {
        int[][] places = {{0, 0}, {6, 9}, {3, 0}, {0, 9}};
        for (int[] at : places) {
            Twins.refusesBehind(x -> x.sheet(3, 2, 9), "copy of 0", x -> x.copy(0, at[0], 3, at[1], 0), 0);
        }
        Twins.refuses("copy of 0 on a sheet of 0", x -> x.copy(2, 0, 2, 0, 0), 0);
        Twins.refuses("copy of 1 on a sheet of 0", x -> x.copy(2, 0, 2, 0, 1), OUTSIDE);
    }

    /** "come to another one's place j: n", up to both ends. */
    private static void copyOfAll() {
        for (int sort = 0; sort < 3; sort++) {
            DarkLand x = land(2);
            x.sheet(0, sort, 40);
            x.sheet(1, sort, 40);
            for (int l = 0; l < 10; l++) {
                x.cell(0, 4 * l + 1, 1);
            }
            Due.is("none come of 0s", x.lines(1, sort, 0, 10), 0);
            Due.is("all 40", x.copy(0, 0, 1, 0, 40), 40);
            Due.is("all come", x.lines(1, sort, 0, 10), 10);
            x.sheet(2, sort, 5);
            Due.is("the last 3 to the last 3 of 5", x.copy(0, 37, 2, 2, 3), 3);
            Due.is("2 to the first 2", x.copy(0, 0, 2, 0, 2), 2);
            // 0, 1, 1, 0, 0
            Due.is("0, 1, 1, 0", x.lines(2, sort, 0, 1), 1);
            Due.is("1, 1, 0, 0", x.lines(2, sort, 1, 1), 0);
            Due.is("count(2)", x.count(2), 11);
        }
    }

    /** "(or its own)", "(as they were)": by one to either side, so that they overlap. */
    private static void copyWithin() {
        DarkLand x = land(2);
        // nine places; 0 1 9 0 moved up by one and down by one
        Twins.sheet(x, 0, 2, 0, 1, 9, 0, 5, 0, 1, 8, 0);
        Due.is("up by one", x.copy(0, 0, 0, 1, 8), 8);
        // 0 0 1 9 0 5 0 1 8
        Due.is("at 1: 0 1 9 0", x.lines(0, 2, 1, 1), 1);
        Due.is("at 0: 0 0 1 9", x.lines(0, 2, 0, 1), 0);
        Due.is("at 4: 0 5 0 1", x.lines(0, 2, 4, 1), 0);
        Due.is("down by one", x.copy(0, 1, 0, 0, 8), 8);
        // 0 1 9 0 5 0 1 8 8
        Due.is("at 0: 0 1 9 0", x.lines(0, 2, 0, 1), 1);
        Due.is("at 5: 0 1 8 8", x.lines(0, 2, 5, 1), 0);
        x.cell(0, 8, 0);
        Due.is("at 5: 0 1 8 0", x.lines(0, 2, 5, 1), 1);
        Due.is("to itself", x.copy(0, 0, 0, 0, 9), 9);
        Due.is("at 5 still: 0 1 8 0", x.lines(0, 2, 5, 1), 1);
        Due.is("count(2)", x.count(2), 4);
    }

    private static void copyLeavesTheFirst() {
        DarkLand x = land(2);
        Twins.sheet(x, 0, 2, 0, 1, 9, 0);
        x.sheet(1, 2, 4);
        x.copy(0, 0, 1, 0, 4);
        Due.is("the first", x.lines(0, 2, 0, 1), 1);
        Due.is("the other", x.lines(1, 2, 0, 1), 1);
        x.cell(1, 1, 0);
        Due.is("the first", x.lines(0, 2, 0, 1), 1);
        Due.is("the other", x.lines(1, 2, 0, 1), 0);
    }

    /** lines: "BAD: SHEET, sort, n; -11; -13; -12" */
    private static void linesOfNoSheet() {
        refused("SHEET", NO_SHEET, s -> x -> x.lines(s, 2, 0, 1), BAD);
    }

    private static void linesOfASort() {
        refused("sort", new int[] {-1, 3, LEAST, MOST}, sort -> x -> x.lines(1, sort, 0, 1), BAD);
        refused("sort, missing", new int[] {-1, 3, LEAST, MOST}, sort -> x -> x.lines(3, sort, 0, 1), BAD);
    }

    /** "n of them (0 .. 10)" */
    private static void linesOfANumber() {
        refused("n", new int[] {-1, 11, LEAST, MOST}, n -> x -> x.lines(1, 1, 0, n), BAD);
        refused("n, missing", new int[] {-1, 11, LEAST, MOST}, n -> x -> x.lines(3, 1, 0, n), BAD);
        refused("n, another sort", new int[] {-1, 11, LEAST, MOST}, n -> x -> x.lines(1, 2, 0, n), BAD);
        Twins.refuses("n 0", x -> x.lines(1, 1, 0, 0), 0);
        DarkLand x = land(2);
        x.sheet(0, 2, 40);
        for (int l = 0; l < 10; l++) {
            x.cell(0, 4 * l, 1);
        }
        Due.is("n 10", x.lines(0, 2, 0, 10), 10);
        Due.is("count(2)", x.count(2), 10);
    }

    private static void linesOfAMissingSheet() {
        Twins.refuses("missing", x -> x.lines(3, 1, 0, 1), MISSING);
        Twins.refuses("missing, none of them", x -> x.lines(3, 1, 0, 0), MISSING);
        Twins.refuses("-11 ahead of -12", x -> x.lines(3, 1, -1, 1), MISSING);
    }

    private static void linesOfAnotherSort() {
        for (int sort = 0; sort < 3; sort++) {
            for (int s = 0; s < 3; s++) {
                int of = sort;
                int by = s;
                // sheet 0 has ints, 1 shorts, 2 bytes
                if (sort != 2 - s) {
                    Twins.refuses("sheet " + s + " as of sort " + sort, x -> x.lines(by, of, 0, 1), OTHER);
                    Twins.refuses("none of sheet " + s + " as of sort " + sort, x -> x.lines(by, of, 0, 0), OTHER);
                    Twins.refuses("-13 ahead of -12", x -> x.lines(by, of, -1, 1), OTHER);
                }
            }
        }
    }

    /** "-12": sheet 1 of the Twins has 8 shorts. */
    private static void linesOutside() {
        refused("from", new int[] {-1, -4, 5, 6, 7, 8, 9, 40, LEAST, MOST, MOST - 3}, from -> x -> x.lines(1, 1, from, 1), OUTSIDE);
        refused("from, ten", new int[] {-1, -4, -40, LEAST, MOST, MOST - 39}, from -> x -> x.lines(1, 1, from, 10), OUTSIDE);
        Twins.refuses("of a sheet of 0", x -> x.lines(2, 0, 0, 1), OUTSIDE);
        DarkLand x = Twins.land();
        Due.is("the last place", x.lines(1, 1, 4, 1), 1);
        Due.is("count(2)", x.count(2), 4);
    }

    /** "-12: what stood ahead came." */
    private static void linesAheadOfOutsideCome() {
        for (int size = 0; size <= 40; size++) {
            for (int n = 1; n <= 10; n += 3) {
                DarkLand x = land(2);
                x.sheet(0, 2, size);
                for (int i = 0; i < size; i += 4) {
                    x.cell(0, i, 1);
                }
                int whole = Math.min(n, size / 4);
                Due.is("lines of " + n + " by a sheet of " + size, x.lines(0, 2, 0, n), whole == n ? n : OUTSIDE);
                Due.is("count(2)", x.count(2), whole);
            }
        }
        DarkLand x = land(2);
        x.sheet(0, 2, 12);
        x.cell(0, 4, 1);
        Due.is("of those ahead some are left out", x.lines(0, 2, 0, 4), OUTSIDE);
        Due.is("count(2)", x.count(2), 1);
    }

    /** "from a place on, four by four (as of line())" */
    private static void linesFourByFour() {
        DarkLand x = land(3);
        Twins.sheet(x, 0, 0, 9, 9, 0, 1, 30, 1, 1, 2, 20, 0, 9);
        Due.is("two from 2 on", x.lines(0, 0, 2, 2), 2);
        x.plant(1, 0, 100, 10);
        x.deed(2, 0);
        x.run(1);
        Due.is("the first is manual", x.deed(0, 0), DarkLand.STATE);
        x.crew(1);
        Due.is("between 0 and 1", x.deed(0, 0), 1);
        Due.is("the second is not; between 1 and 2", x.deed(0, 1), 1);
        Due.is("one island", x.nodeTold(1, 1) + x.nodeTold(2, 1), 0);
        x.run(1);
        Due.is("VOLTS by their charges", x.nodeTold(2, 3), 30 + 20 - 10);
    }

    /** "how many came (others are left out)": what line() would refuse, whyever. */
    private static void linesThatAreLeftOut() {
        int[][] wrong = {{0, 2, 1, 0}, {-1, 0, 1, 0}, {2, 0, 1, 0}, {0, 0, 1, 0}, {0, 1, 100, 0}, {0, 1, -1, 0}, {0, 1, 1, 2}, {0, 1, 1, -1}};
        for (int[] of : wrong) {
            DarkLand x = land(2);
            Twins.sheet(x, 0, 2, 0, 1, 5, 0, of[0], of[1], of[2], of[3], 1, 0, 6, 0);
            Due.is("two of three", x.lines(0, 2, 0, 3), 2);
            Due.is("count(2)", x.count(2), 2);
            Due.is("none of one", x.lines(0, 2, 4, 1), 0);
            Due.is("count(2)", x.count(2), 2);
        }
    }

    /** With 20 LINES more are left out; -12 is told still. */
    private static void linesWhenFull() {
        DarkLand x = land(2);
        for (int l = 0; l < 17; l++) {
            x.line(0, 1, 0, 0);
        }
        x.sheet(0, 2, 20);
        for (int l = 0; l < 5; l++) {
            x.cell(0, 4 * l + 1, 1);
        }
        Due.is("three of five", x.lines(0, 2, 0, 5), 3);
        Due.is("none of five", x.lines(0, 2, 0, 5), 0);
        Due.is("outside", x.lines(0, 2, 0, 6), OUTSIDE);
        Due.is("count(2)", x.count(2), 20);
    }

    /** taken: "BAD: KIND; -11: no such PLANT; -13." */
    private static void takenForNoKind() {
        int[] none = {-1, 6, LEAST, MOST};
        refused("KIND", none, k -> x -> x.taken(0, k), BAD);
        refused("KIND ahead of -11", none, k -> x -> x.taken(3, k), BAD);
        refused("KIND ahead of -11", none, k -> x -> x.taken(-1, k), BAD);
    }

    private static void takenOfNoPlant() {
        for (int kind = 0; kind < 6; kind++) {
            int k = kind;
            refused("plant for kind " + k, new int[] {-1, 3, LEAST, MOST}, p -> x -> x.taken(p, k), MISSING);
        }
        DarkLand x = land(1);
        for (int p = 0; p < 8; p++) {
            Due.is("ahead of it", x.taken(p, 0), MISSING);
            x.plant(5, 0, 1 + p, 1);
            Due.is("behind it", x.taken(p, 0), 1 + p);
        }
        Due.is("taken(8, 0)", x.taken(8, 0), MISSING);
    }

    /** "taken for one of a KIND (also of one that is one): its MOST" */
    private static void takenForAKind() {
        // the Twins have a dam of 200, a coal of 300, a pumped of 100
        int[][] is = {{200, 200, OTHER, OTHER, OTHER, OTHER}, {300, OTHER, 300, OTHER, 300, OTHER}, {100, 100, OTHER, 100, OTHER, OTHER}};
        for (int plant = 0; plant < 3; plant++) {
            for (int kind = 0; kind < 6; kind++) {
                int p = plant;
                int k = kind;
                Twins.looks("taken(" + p + ", " + k + ")", x -> x.taken(p, k), is[p][k]);
            }
        }
        int[][] others = {{0, 1, 0, 0, 0, 0, 0}, {2, 1, 0, 1, 0, 0, 0}, {5, 1, 0, 1, 0, 0, 1}};
        for (int[] of : others) {
            DarkLand x = land(1);
            x.plant(of[0], 0, 999, 1);
            for (int kind = 0; kind < 6; kind++) {
                Due.is(of[0] + " for " + kind, x.taken(0, kind), of[kind + 1] == 1 ? 999 : OTHER);
            }
        }
    }
}
