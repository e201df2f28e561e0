/** Promises 1 to 8: what a land is made of. */
public final class LandTest {
    private static final int BAD = DarkLand.BAD, NONE = DarkLand.NONE, FULL = DarkLand.FULL;

    public static void main(String[] args) {
        aNewObject();
        nodes();
        lines();
        plants();
        loads();
        crewsAndRooms();
        kinds();
        Due.end();
    }

    private static void aNewObject() {
        DarkLand x = new DarkLand();
        for (int what = 0; what < 12; what++) {
            Due.is("count(" + what + ") of a new object", x.count(what), what == 8 ? 1 : 0);
        }
        Due.is("planned(-1) of a new object", x.planned(-1), 0);
        Due.is("nodeTold(0, 0) of a new object", x.nodeTold(0, 0), -100000);
        Due.is("NONE", NONE, -1);
        Due.is("BAD", BAD, -2);
        Due.is("STATE", DarkLand.STATE, -3);
        Due.is("FULL", FULL, -4);
        Due.is("NO", DarkLand.NO, -4611686018427387904L);
    }

    private static void nodes() {
        DarkLand x = new DarkLand();
        Due.is("node(-1)", x.node(-1), BAD);
        Due.is("node(100)", x.node(100), BAD);
        Due.is("node(least)", x.node(Integer.MIN_VALUE), BAD);
        for (int i = 0; i < 14; i++) {
            Due.is("node " + i, x.node(i % 2 == 0 ? 0 : 99), i);
        }
        Due.is("node(100), full", x.node(100), BAD);
        Due.is("node(0), full", x.node(0), FULL);
        Due.is("count(1)", x.count(1), 14);
        Due.is("nodeTold(13, 1)", x.nodeTold(13, 1), 13);
    }

    private static void lines() {
        DarkLand x = new DarkLand();
        x.node(0);
        x.node(0);
        Due.is("line(2, 2, -1, 2)", x.line(2, 2, -1, 2), NONE);
        Due.is("line(0, -1, 0, 0)", x.line(0, -1, 0, 0), NONE);
        Due.is("line(-1, 0, 100, 0)", x.line(-1, 0, 100, 0), NONE);
        Due.is("line(1, 1, 0, 0)", x.line(1, 1, 0, 0), BAD);
        Due.is("line(0, 1, -1, 0)", x.line(0, 1, -1, 0), BAD);
        Due.is("line(0, 1, 100, 0)", x.line(0, 1, 100, 0), BAD);
        Due.is("line(0, 1, 0, -1)", x.line(0, 1, 0, -1), BAD);
        Due.is("line(0, 1, 0, 2)", x.line(0, 1, 0, 2), BAD);
        for (int i = 0; i < 20; i++) {
            Due.is("line " + i, x.line(i % 2, 1 - i % 2, i % 3 == 0 ? 99 : 0, i % 2), i);
            Due.is("lineTold(" + i + ")", x.lineTold(i), 0);
        }
        Due.is("line(0, 0, 0, 0), full", x.line(0, 0, 0, 0), BAD);
        Due.is("line(0, 2, 0, 0), full", x.line(0, 2, 0, 0), NONE);
        Due.is("line(0, 1, 0, 0), full", x.line(0, 1, 0, 0), FULL);
        Due.is("count(2)", x.count(2), 20);
    }

    private static void plants() {
        DarkLand x = new DarkLand();
        x.node(0);
        Due.is("plant(6, 1, 0, 0)", x.plant(6, 1, 0, 0), NONE);
        Due.is("plant(0, -1, 1, 1)", x.plant(0, -1, 1, 1), NONE);
        Due.is("plant(-1, 0, 1, 1)", x.plant(-1, 0, 1, 1), BAD);
        Due.is("plant(6, 0, 1, 1)", x.plant(6, 0, 1, 1), BAD);
        Due.is("plant(0, 0, 0, 1)", x.plant(0, 0, 0, 1), BAD);
        Due.is("plant(0, 0, 1000, 1)", x.plant(0, 0, 1000, 1), BAD);
        Due.is("plant(0, 0, 1, 0)", x.plant(0, 0, 1, 0), BAD);
        Due.is("plant(0, 0, 1, 100)", x.plant(0, 0, 1, 100), BAD);
        for (int i = 0; i < 8; i++) {
            Due.is("plant " + i, x.plant(i % 6, 0, i % 2 == 0 ? 1 : 999, i % 2 == 0 ? 99 : 1), i);
            Due.is("plantTold(" + i + ", 0)", x.plantTold(i, 0), i % 6);
            for (int what = 1; what < 5; what++) {
                Due.is("plantTold(" + i + ", " + what + ")", x.plantTold(i, what), 0);
            }
        }
        Due.is("plant(6, 0, 1, 1), full", x.plant(6, 0, 1, 1), BAD);
        Due.is("plant(0, 0, 1, 1), full", x.plant(0, 0, 1, 1), FULL);
        Due.is("count(3)", x.count(3), 8);
    }

    private static void loads() {
        DarkLand x = new DarkLand();
        x.node(0);
        Due.is("load(1, 0, 10)", x.load(1, 0, 10), NONE);
        Due.is("load(-1, 1, 1)", x.load(-1, 1, 1), NONE);
        Due.is("load(0, 0, 0)", x.load(0, 0, 0), BAD);
        Due.is("load(0, 1000, 0)", x.load(0, 1000, 0), BAD);
        Due.is("load(0, 1, -1)", x.load(0, 1, -1), BAD);
        Due.is("load(0, 1, 10)", x.load(0, 1, 10), BAD);
        for (int i = 0; i < 12; i++) {
            Due.is("load " + i, x.load(0, i == 0 ? 1 : 999, i % 10), i);
            Due.is("loadTold(" + i + ", 0)", x.loadTold(i, 0), 0);
            Due.is("loadTold(" + i + ", 5)", x.loadTold(i, 5), i % 10);
        }
        Due.is("load(0, 0, 0), full", x.load(0, 0, 0), BAD);
        Due.is("load(0, 1, 0), full", x.load(0, 1, 0), FULL);
        Due.is("count(4)", x.count(4), 12);
    }

    private static void crewsAndRooms() {
        DarkLand x = new DarkLand();
        x.node(0);
        Due.is("crew(1)", x.crew(1), NONE);
        Due.is("crew(-1)", x.crew(-1), NONE);
        Due.is("room(1, 31)", x.room(1, 31), NONE);
        Due.is("room(-1, 0)", x.room(-1, 0), NONE);
        Due.is("room(0, -1)", x.room(0, -1), BAD);
        Due.is("room(0, 31)", x.room(0, 31), BAD);
        for (int i = 0; i < 4; i++) {
            Due.is("crew " + i, x.crew(0), i);
            Due.is("room " + i, x.room(0, 10 * i), i);
        }
        Due.is("crew(1), full", x.crew(1), NONE);
        Due.is("crew(0), full", x.crew(0), FULL);
        Due.is("room(0, 31), full", x.room(0, 31), BAD);
        Due.is("room(0, 30), full", x.room(0, 30), FULL);
        Due.is("count(5)", x.count(5), 4);
        Due.is("count(6)", x.count(6), 4);
    }

    private static void kinds() {
        DarkLand x = new DarkLand();
        int[][] due = {
            // RAMP, NEED of 999, WARMS if OFF is 30, WARMS if it is 31, SOAK, ALONE
            {10, 50, 5, 5, 10, 0},
            {30, 50, 1, 1, 10, 1},
            {10, 100, 5, 20, 10, 0},
            {50, 50, 1, 1, 30, 1},
            {5, 100, 10, 25, 10, 0},
            {1, 100, 25, 140, 10, 0},
        };
        for (int k = 0; k < 6; k++) {
            String call = "kindTold(" + k + ", ";
            Due.is(call + "0)", x.kindTold(k, 0, 1, 0), due[k][0]);
            Due.is(call + "1) of 999", x.kindTold(k, 1, 999, 0), due[k][1]);
            Due.is(call + "1) of 1", x.kindTold(k, 1, 1, 0), due[k][1] / 50);
            Due.is(call + "1) of 19", x.kindTold(k, 1, 19, 0), due[k][1] / 50);
            Due.is(call + "1) of 20", x.kindTold(k, 1, 20, 0), due[k][1] / 25);
            Due.is(call + "2) of 0", x.kindTold(k, 2, 1, 0), due[k][2]);
            Due.is(call + "2) of 30", x.kindTold(k, 2, 1, 30), due[k][2]);
            Due.is(call + "2) of 31", x.kindTold(k, 2, 1, 31), due[k][3]);
            Due.is(call + "2) of 999", x.kindTold(k, 2, 1, 999), due[k][3]);
            Due.is(call + "3)", x.kindTold(k, 3, 1, 0), due[k][4]);
            Due.is(call + "4)", x.kindTold(k, 4, 1, 0), due[k][5]);
        }
        Due.is("kindTold(-1, 0, 1, 0)", x.kindTold(-1, 0, 1, 0), BAD);
        Due.is("kindTold(6, 0, 1, 0)", x.kindTold(6, 0, 1, 0), BAD);
        Due.is("kindTold(0, -1, 1, 0)", x.kindTold(0, -1, 1, 0), BAD);
        Due.is("kindTold(0, 5, 1, 0)", x.kindTold(0, 5, 1, 0), BAD);
        Due.is("kindTold(0, 0, 0, 0)", x.kindTold(0, 0, 0, 0), BAD);
        Due.is("kindTold(0, 0, 1000, 0)", x.kindTold(0, 0, 1000, 0), BAD);
        Due.is("kindTold(0, 0, 1, -1)", x.kindTold(0, 0, 1, -1), BAD);
        Due.is("kindTold(0, 0, 1, 1000)", x.kindTold(0, 0, 1, 1000), BAD);
    }
}
