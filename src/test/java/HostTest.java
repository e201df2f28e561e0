/** Promises 31 to 35: the host's sheets, lines by a sheet, plants taken for a kind. */
public final class HostTest {
    private static final int BAD = DarkLand.BAD;
    private static final int MISSING = -11, OUTSIDE = -12, OTHER = -13, BELOW = -14;

    public static void main(String[] args) {
        sheets();
        cells();
        whatBytesAndShortsHold();
        anewAllIsZero();
        copies();
        copiesWithinASheet();
        linesBySheets();
        linesThatAreLeftOut();
        taken();
        Due.end();
    }

    private static void sheets() {
        DarkLand x = new DarkLand();
        Due.is("SHEET -1", x.sheet(-1, 9, -1), BAD);
        Due.is("SHEET 4", x.sheet(4, 0, 1), BAD);
        Due.is("sort -2", x.sheet(0, -2, 1), BAD);
        Due.is("sort 3", x.sheet(0, 3, -1), BAD);
        Due.is("n 41", x.sheet(0, 0, 41), BAD);
        Due.is("n most", x.sheet(0, 2, Integer.MAX_VALUE), BAD);
        Due.is("n -1", x.sheet(0, 0, -1), BELOW);
        Due.is("n least", x.sheet(0, 0, Integer.MIN_VALUE), BELOW);
        Due.is("still missing", x.cell(0, 0, 0), MISSING);
        Due.is("n 40", x.sheet(3, 1, 40), 1);
        Due.is("cell 39", x.cell(3, 39, 1), 1);
        Due.is("n 0", x.sheet(3, 1, 0), 1);
        Due.is("cell 0", x.cell(3, 0, 1), OUTSIDE);
        Due.is("missing", x.sheet(3, -1, 41), 1);
        Due.is("missing", x.cell(3, 0, 1), MISSING);
        Due.is("missing again", x.sheet(3, -1, -41), 1);
        Due.is("SHEET 4, missing", x.sheet(4, -1, 0), BAD);
    }

    private static void cells() {
        DarkLand x = new DarkLand();
        Due.is("SHEET -1", x.cell(-1, 0, 0), BAD);
        Due.is("SHEET 4", x.cell(4, -1, 0), BAD);
        Due.is("missing", x.cell(0, -1, 0), MISSING);
        x.sheet(0, 0, 3);
        Due.is("-1", x.cell(0, -1, 0), OUTSIDE);
        Due.is("3", x.cell(0, 3, 0), OUTSIDE);
        Due.is("most", x.cell(0, Integer.MAX_VALUE, 0), OUTSIDE);
        Due.is("least", x.cell(0, Integer.MIN_VALUE, 0), OUTSIDE);
        Due.is("2", x.cell(0, 2, Integer.MIN_VALUE), 1);
    }

    /** What the four numbers on a sheet make as a line: how many come. */
    private static int asLine(DarkLand x, int sheet, int sort, int from) {
        return x.lines(sheet, sort, from, 1);
    }

    private static void whatBytesAndShortsHold() {
        DarkLand x = twoNodes();
        for (int sort = 0; sort < 3; sort++) {
            x.sheet(sort, sort, 4);
            x.cell(sort, 0, 256);
            x.cell(sort, 1, 65537);
            x.cell(sort, 2, 0x7fff0063);
            Due.is("256, 65537, 0x7fff0063 of sort " + sort, asLine(x, sort, sort, 0), sort == 0 ? 1 : 0);
            x.cell(sort, 0, 65536);
            Due.is("65536, 65537, 0x7fff0063 of sort " + sort, asLine(x, sort, sort, 0), sort < 2 ? 1 : 0);
            x.cell(sort, 0, 0);
            x.cell(sort, 1, 1);
            x.cell(sort, 2, 98);
            Due.is("0, 1, 98 of sort " + sort, asLine(x, sort, sort, 0), 1);
            x.cell(sort, 2, 200);
            Due.is("a charge of 200, or -56, of sort " + sort, asLine(x, sort, sort, 0), 0);
            x.cell(sort, 2, -1);
            Due.is("a charge of -1, of sort " + sort, asLine(x, sort, sort, 0), 0);
            x.sheet(sort, sort, 4);
            x.cell(sort, 0, 1);
            Due.is("all 0 anew, of sort " + sort, asLine(x, sort, sort, 0), 1);
        }
        Due.is("lines", x.count(2), 9);
    }

    private static void anewAllIsZero() {
        for (int place = 0; place < 40; place++) {
            DarkLand x = twoNodes();
            x.sheet(0, 2, 40);
            x.cell(0, place, 100);
            x.sheet(0, 2, 40);
            int line = place / 4 * 4;
            x.cell(0, line + (place % 4 == 0 ? 1 : 0), 1);
            Due.is("place " + place + " is 0 anew", asLine(x, 0, 2, line), 1);
        }
    }

    private static DarkLand twoNodes() {
        DarkLand x = new DarkLand();
        x.node(0);
        x.node(1);
        return x;
    }

    private static void copies() {
        DarkLand x = twoNodes();
        Due.is("SHEET -1", x.copy(-1, 0, 0, 0, 0), BAD);
        Due.is("SHEET 4", x.copy(4, 0, 0, 0, 0), BAD);
        Due.is("other -1", x.copy(0, 0, -1, 0, 0), BAD);
        Due.is("other 4", x.copy(0, 0, 4, 0, 0), BAD);
        Due.is("both missing", x.copy(0, 0, 1, 0, 0), MISSING);
        x.sheet(0, 2, 8);
        Due.is("other missing", x.copy(0, -1, 1, 0, -1), MISSING);
        Due.is("one missing", x.copy(1, 0, 0, 0, 0), MISSING);
        x.sheet(1, 1, 8);
        Due.is("unlike sorts", x.copy(0, -1, 1, -1, -1), OTHER);
        x.sheet(1, 2, 6);
        Due.is("n -1", x.copy(0, 1, 1, 1, -1), OUTSIDE);
        Due.is("n least", x.copy(0, 0, 1, 0, Integer.MIN_VALUE), OUTSIDE);
        Due.is("n most", x.copy(0, 1, 1, 0, Integer.MAX_VALUE), OUTSIDE);
        Due.is("i -1", x.copy(0, -1, 1, 0, 1), OUTSIDE);
        Due.is("j -1", x.copy(0, 0, 1, -1, 1), OUTSIDE);
        Due.is("i most", x.copy(0, Integer.MAX_VALUE, 1, 0, 1), OUTSIDE);
        Due.is("j most", x.copy(0, 0, 1, Integer.MAX_VALUE, 1), OUTSIDE);
        Due.is("beyond one", x.copy(0, 5, 1, 0, 4), OUTSIDE);
        Due.is("beyond the other", x.copy(0, 0, 1, 0, 7), OUTSIDE);
        Due.is("all of the other", x.copy(0, 2, 1, 0, 6), 6);
        Due.is("none at the end", x.copy(0, 8, 1, 6, 0), 0);
        Due.is("none behind the end", x.copy(0, 9, 1, 0, 0), OUTSIDE);
        Due.is("none behind the other's end", x.copy(0, 0, 1, 7, 0), OUTSIDE);
        x.cell(0, 3, 1);
        x.cell(0, 4, 7);
        Due.is("1, 7 come to 1", x.copy(0, 3, 1, 1, 2), 2);
        Due.is("0, 1, 7, 0", asLine(x, 1, 2, 0), 1);
        Due.is("0, 0, 1, 7 stays", asLine(x, 0, 2, 1), 0);
        Due.is("0, 1, 7, 0 stays", asLine(x, 0, 2, 2), 1);
        x.cell(0, 3, 0);
        Due.is("it was copied", asLine(x, 1, 2, 0), 1);
    }

    private static void copiesWithinASheet() {
        for (int to = 0; to < 2; to++) {
            DarkLand x = twoNodes();
            x.sheet(2, 0, 9);
            // 0 1 50 0 and more of it behind: as they were, moved by one either way
            int[] row = {9, 0, 1, 50, 0, 1, 0, 51, 0};
            for (int i = 0; i < 9; i++) {
                x.cell(2, i, row[i]);
            }
            Due.is("copy", to == 0 ? x.copy(2, 1, 2, 0, 8) : x.copy(2, 0, 2, 1, 8), 8);
            Due.is("both lines", x.lines(2, 0, 2 * to, to == 0 ? 2 : 1), to == 0 ? 2 : 1);
            Due.is("the other's place", asLine(x, 2, 0, to == 0 ? 1 : 1), 0);
            Due.is("count", x.count(2), to == 0 ? 2 : 1);
        }
    }

    private static void linesBySheets() {
        DarkLand x = twoNodes();
        Due.is("SHEET -1", x.lines(-1, 2, 0, 0), BAD);
        Due.is("SHEET 4", x.lines(4, 2, 0, 0), BAD);
        Due.is("sort -1", x.lines(0, -1, 0, 0), BAD);
        Due.is("sort 3", x.lines(0, 3, 0, 0), BAD);
        Due.is("n -1", x.lines(0, 2, 0, -1), BAD);
        Due.is("n 11", x.lines(0, 2, 0, 11), BAD);
        Due.is("missing", x.lines(0, 2, -1, 1), MISSING);
        x.sheet(0, 2, 40);
        Due.is("another sort", x.lines(0, 1, -1, 1), OTHER);
        Due.is("none", x.lines(0, 2, 0, 0), 0);
        for (int i = 0; i < 10; i++) {
            x.cell(0, 4 * i + i % 2, 1);
            x.cell(0, 4 * i + 2, 10 * i);
            x.cell(0, 4 * i + 3, i % 2);
        }
        Due.is("ten", x.lines(0, 2, 0, 10), 10);
        Due.is("count", x.count(2), 10);
        Due.is("outside from the start", x.lines(0, 2, -1, 1), OUTSIDE);
        Due.is("outside from the start", x.lines(0, 2, 40, 1), OUTSIDE);
        Due.is("outside from the start", x.lines(0, 2, Integer.MAX_VALUE, 10), OUTSIDE);
        Due.is("outside from the start", x.lines(0, 2, Integer.MIN_VALUE, 10), OUTSIDE);
        Due.is("one place short", x.lines(0, 2, 37, 1), OUTSIDE);
        Due.is("count", x.count(2), 10);
        Due.is("the last", x.lines(0, 2, 36, 1), 1);
        Due.is("two, then outside", x.lines(0, 2, 32, 3), OUTSIDE);
        Due.is("two came", x.count(2), 13);
        x.plant(1, 0, 100, 10);
        x.deed(2, 0);
        x.run(1);
        Due.is("the first is not manual", x.may(0), 1);
        Due.is("the second is", x.may(1), 0);
        x.deed(0, 4);
        x.run(1);
        Due.is("its charge", x.nodeTold(1, 3), 30);
    }

    private static void linesThatAreLeftOut() {
        DarkLand x = twoNodes();
        x.sheet(1, 1, 20);
        int[] cells = {0, 1, 1, 0, 0, 2, 1, 0, 1, 1, 1, 0, 0, 1, 100, 0, 1, 0, 1, 1};
        for (int i = 0; i < cells.length; i++) {
            x.cell(1, i, cells[i]);
        }
        Due.is("two of five", x.lines(1, 1, 0, 5), 2);
        Due.is("count", x.count(2), 2);
        for (int i = 0; i < 8; i++) {
            Due.is("two of five", x.lines(1, 1, 0, 5), 2);
        }
        Due.is("one", x.lines(1, 1, 0, 1), 1);
        Due.is("full for the last", x.lines(1, 1, 0, 5), 1);
        Due.is("full", x.lines(1, 1, 0, 5), 0);
        Due.is("outside, full", x.lines(1, 1, 0, 6), OUTSIDE);
        Due.is("count", x.count(2), 20);
    }

    private static void taken() {
        DarkLand x = twoNodes();
        boolean[][] is = {
            {true, false, false, false, false, false},
            {true, true, false, false, false, false},
            {true, false, true, false, false, false},
            {true, true, false, true, false, false},
            {true, false, true, false, true, false},
            {true, false, true, false, false, true},
        };
        Due.is("KIND -1", x.taken(0, -1), BAD);
        Due.is("KIND 6", x.taken(-1, 6), BAD);
        Due.is("no plant", x.taken(0, 0), MISSING);
        Due.is("no plant", x.taken(-1, 5), MISSING);
        for (int k = 0; k < 6; k++) {
            x.plant(k, 0, 100 + k, 1);
            for (int other = 0; other < 6; other++) {
                Due.is(k + " taken for " + other, x.taken(k, other), is[k][other] ? 100 + k : OTHER);
            }
            Due.is("no plant", x.taken(k + 1, 0), MISSING);
        }
        Due.is("none of it changes", x.count(3), 6);
    }
}
