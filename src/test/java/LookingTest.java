/** Promises 13 to 18: what is told of nodes, plants, loads, lines, crews and falls. */
public final class LookingTest {
    private static final int BAD = DarkLand.BAD, NONE = DarkLand.NONE;

    public static void main(String[] args) {
        wrongLooks();
        nodesAndIslands();
        plants();
        loads();
        linesAndCrews();
        falls();
        Due.end();
    }

    /** Nodes at 0, 10, 20, 30 in a row; a dam at 1; a load at each end; a crew and a room at 0. */
    private static DarkLand row() {
        DarkLand x = new DarkLand();
        for (int i = 0; i < 4; i++) {
            x.node(10 * i);
        }
        for (int i = 0; i < 3; i++) {
            x.line(i + 1, i, 10 * (i + 1), 0);
        }
        x.plant(1, 1, 100, 10);
        x.load(0, 10, 4);
        x.load(3, 10, 0);
        x.crew(0);
        x.room(0, 0);
        return x;
    }

    private static void wrongLooks() {
        DarkLand x = row();
        Due.is("nodeTold(-1, 6)", x.nodeTold(-1, 6), -100000);
        Due.is("nodeTold(4, 0)", x.nodeTold(4, 0), -100000);
        Due.is("nodeTold(3, -1)", x.nodeTold(3, -1), -200000);
        Due.is("nodeTold(0, 6)", x.nodeTold(0, 6), -200000);
        Due.is("plantTold(-1, 5)", x.plantTold(-1, 5), NONE);
        Due.is("plantTold(1, 0)", x.plantTold(1, 0), NONE);
        Due.is("plantTold(0, -1)", x.plantTold(0, -1), BAD);
        Due.is("plantTold(0, 5)", x.plantTold(0, 5), BAD);
        Due.is("loadTold(-1, 6)", x.loadTold(-1, 6), NONE);
        Due.is("loadTold(2, 0)", x.loadTold(2, 0), NONE);
        Due.is("loadTold(0, -1)", x.loadTold(0, -1), BAD);
        Due.is("loadTold(0, 6)", x.loadTold(0, 6), BAD);
        Due.is("lineTold(-1)", x.lineTold(-1), NONE);
        Due.is("lineTold(3)", x.lineTold(3), NONE);
        Due.is("crewTold(-1, 2)", x.crewTold(-1, 2), NONE);
        Due.is("crewTold(1, 0)", x.crewTold(1, 0), NONE);
        Due.is("crewTold(0, -1)", x.crewTold(0, -1), BAD);
        Due.is("crewTold(0, 2)", x.crewTold(0, 2), BAD);
        Due.is("fall(0, 0)", x.fall(0, 0), NONE);
        Due.is("fall(-1, 3)", x.fall(-1, 3), NONE);
    }

    private static void nodesAndIslands() {
        DarkLand x = row();
        x.deed(2, 0);
        Due.is("not lit as it warms", x.nodeTold(1, 0), 0);
        x.run(1);
        x.deed(0, 1);
        x.deed(0, 2);
        int[] island = {0, 1, 1, 1};
        for (int n = 0; n < 4; n++) {
            Due.is("island of " + n, x.nodeTold(n, 1), island[n]);
            Due.is("lit " + n, x.nodeTold(n, 0), n == 0 ? 0 : 1);
            Due.is("held " + n, x.nodeTold(n, 5), n == 1 ? 1 : 0);
            Due.is("spare " + n, x.nodeTold(n, 4), n == 1 ? 100 : 0);
        }
        x.deed(4, 1);
        x.run(2);
        for (int n = 1; n < 4; n++) {
            // 20 drawn at first, then 19: the dam follows at once
            Due.is("swing " + n, x.nodeTold(n, 2), 0);
            Due.is("volts " + n, x.nodeTold(n, 3), 20 + 30 - 1 - 10);
            Due.is("spare " + n, x.nodeTold(n, 4), 81);
            Due.is("held " + n, x.nodeTold(n, 5), n == 1 ? 3 : 2);
        }
        x.deed(0, 0);
        Due.is("island of the last", x.nodeTold(3, 1), 0);
        x.deed(1, 1);
        Due.is("island of the last", x.nodeTold(3, 1), 2);
        Due.is("dark", x.nodeTold(3, 0), 0);
        Due.is("held till the minute", x.nodeTold(3, 5), 2);
        Due.is("spare till the minute", x.nodeTold(3, 4), 81);
        x.run(1);
        for (int what = 2; what < 6; what++) {
            Due.is("of the dark " + what, x.nodeTold(3, what), 0);
        }
        Due.is("held of the lit", x.nodeTold(0, 5), 1);
        Due.is("held of the lit", x.nodeTold(1, 5), 4);
    }

    private static void plants() {
        DarkLand x = row();
        x.plant(5, 1, 40, 7);
        int[][] due = {{1, 0, 0, 0, 0}, {5, 0, 0, 0, 0}};
        look(x, due);
        x.deed(2, 0);
        x.run(1);
        due[0] = new int[] {1, 2, 0, 1, 0};
        look(x, due);
        x.deed(2, 1);
        x.run(4);
        due[0][2] = 6;
        due[1] = new int[] {5, 1, 0, 4, 0};
        look(x, due);
        x.deed(3, 1);
        due[1] = new int[] {5, 0, 0, 0, 5};
        look(x, due);
        x.run(1);
        x.deed(3, 0);
        due[0] = new int[] {1, 0, 0, 0, 6};
        look(x, due);
    }

    private static void look(DarkLand x, int[][] due) {
        for (int p = 0; p < due.length; p++) {
            for (int what = 0; what < 5; what++) {
                Due.is("plantTold(" + p + ", " + what + ")", x.plantTold(p, what), due[p][what]);
            }
        }
    }

    private static void loads() {
        DarkLand x = row();
        x.load(1, 7, 9);
        int[] due = {0, 0, 14, 0, 0, 9};
        lookAtLoad(x, due);
        x.run(1);
        due = new int[] {0, 0, 14, 0, 1, 9};
        lookAtLoad(x, due);
        x.deed(4, 2);
        due[0] = 1;
        lookAtLoad(x, due);
        x.run(1);
        due[4] = 2;
        lookAtLoad(x, due);
        x.deed(2, 0);
        x.run(1);
        due = new int[] {1, 1, 13, 1, 2, 9};
        lookAtLoad(x, due);
        x.run(2);
        due = new int[] {1, 1, 11, 3, 2, 9};
        lookAtLoad(x, due);
        x.deed(5, 2);
        due[0] = 0;
        lookAtLoad(x, due);
        x.run(1);
        due = new int[] {0, 0, 7, 3, 3, 9};
        lookAtLoad(x, due);
    }

    private static void lookAtLoad(DarkLand x, int[] due) {
        for (int what = 0; what < 6; what++) {
            Due.is("loadTold(2, " + what + ") at " + x.count(0), x.loadTold(2, what), due[what]);
        }
    }

    private static void linesAndCrews() {
        DarkLand x = row();
        x.deed(2, 0);
        x.run(1);
        x.deed(0, 1);
        for (int l = 0; l < 3; l++) {
            Due.is("lineTold(" + l + ")", x.lineTold(l), l == 1 ? 1 : 0);
        }
        x.deed(1, 1);
        Due.is("lineTold(1)", x.lineTold(1), 0);
        x.go(0, 1);
        Due.is("crewTold(0, 0)", x.crewTold(0, 0), 0);
        Due.is("crewTold(0, 1)", x.crewTold(0, 1), 10);
        x.run(4);
        Due.is("crewTold(0, 0)", x.crewTold(0, 0), 0);
        Due.is("crewTold(0, 1)", x.crewTold(0, 1), 6);
        x.run(6);
        Due.is("crewTold(0, 0)", x.crewTold(0, 0), 1);
        Due.is("crewTold(0, 1)", x.crewTold(0, 1), 0);
    }

    private static void falls() {
        DarkLand x = row();
        x.line(2, 3, 31, 0);
        x.deed(2, 0);
        x.run(3);
        x.deed(0, 1);
        x.deed(0, 3);
        x.deed(0, 2);
        // 20 and 31 and 30 less 10
        x.run(1);
        Due.is("fall(0, 0)", x.fall(0, 0), 3);
        Due.is("fall(0, 1)", x.fall(0, 1), 1);
        Due.is("fall(0, 2)", x.fall(0, 2), 3);
        Due.is("fall(0, 3)", x.fall(0, 3), BAD);
        Due.is("fall(0, -1)", x.fall(0, -1), BAD);
        Due.is("fall(1, 0)", x.fall(1, 0), NONE);
        Due.is("fall(1, 3)", x.fall(1, 3), NONE);
    }
}
