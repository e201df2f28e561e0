/** Promises 9 to 12: deeds, crews, and minutes. */
public final class DeedsTest {
    private static final int BAD = DarkLand.BAD, NONE = DarkLand.NONE, FULL = DarkLand.FULL, STATE = DarkLand.STATE;

    public static void main(String[] args) {
        wrongDeeds();
        starts();
        warming();
        warmingFromFar();
        closing();
        swingsApart();
        manualLines();
        crews();
        loadsComeBackCold();
        plantsFollow();
        swingsTooLowAndTooHigh();
        manyFalls();
        theEndOfTime();
        Due.end();
    }

    /** A dam (200, weight 20) at node 0 that is on at minute 1, and a node 1. */
    private static DarkLand dam() {
        DarkLand x = new DarkLand();
        x.node(0);
        x.node(10);
        Due.is("plant(1, 0, 200, 20)", x.plant(1, 0, 200, 20), 0);
        Due.is("deed(2, 0)", x.deed(2, 0), 1);
        Due.is("run(1)", x.run(1), 1);
        return x;
    }

    private static void wrongDeeds() {
        DarkLand x = dam();
        Due.is("deed(-1, 0)", x.deed(-1, 0), BAD);
        Due.is("deed(6, -1)", x.deed(6, -1), BAD);
        for (int deed = 0; deed < 6; deed++) {
            Due.is("deed(" + deed + ", -1)", x.deed(deed, -1), NONE);
            Due.is("deed(" + deed + ", 1)", x.deed(deed, 1), NONE);
        }
        Due.is("may(0)", x.may(0), NONE);
        Due.is("may(-1)", x.may(-1), NONE);
    }

    private static void starts() {
        DarkLand x = dam();
        x.plant(2, 1, 100, 10);
        x.plant(3, 1, 100, 10);
        Due.is("START of a steam in the dark", x.deed(2, 1), STATE);
        Due.is("STOP of what is off", x.deed(3, 1), STATE);
        Due.is("START of what is on", x.deed(2, 0), STATE);
        Due.is("START of a pumped in the dark", x.deed(2, 2), 1);
        Due.is("it is warming", x.plantTold(2, 1), 1);
        Due.is("not yet lit", x.nodeTold(1, 0), 0);
        Due.is("START of a steam while the pumped warms", x.deed(2, 1), STATE);
        Due.is("STOP of what warms", x.deed(3, 2), 1);
        Due.is("it is off", x.plantTold(2, 1), 0);
        Due.is("it went off now", x.plantTold(2, 4), 1);
        Due.is("STOP of what is on", x.deed(3, 0), 1);
        Due.is("dark at once", x.nodeTold(0, 0), 0);
        Due.is("off", x.plantTold(0, 1), 0);
        Due.is("fell", x.plantTold(0, 4), 1);
    }

    private static void warming() {
        DarkLand x = dam();
        x.plant(4, 0, 300, 40);
        Due.is("START of a coal", x.deed(2, 1), 1);
        x.run(9);
        Due.is("warmed 9", x.plantTold(1, 3), 9);
        Due.is("still warming", x.plantTold(1, 1), 1);
        Due.is("the dam puts out what it needs", x.plantTold(0, 2), 32);
        x.run(1);
        Due.is("on at the tenth", x.plantTold(1, 1), 2);
        Due.is("warmed stays", x.plantTold(1, 3), 10);
        Due.is("fell stays", x.plantTold(1, 4), 0);
        x.deed(3, 1);
        Due.is("warmed after a STOP", x.plantTold(1, 3), 0);
        Due.is("fell after a STOP", x.plantTold(1, 4), 11);
        Due.is("START anew", x.deed(2, 1), 1);
        x.run(3);
        Due.is("STOP of the dam that warms it", x.deed(3, 0), 1);
        x.run(1);
        Due.is("it goes off", x.plantTold(1, 1), 0);
        Due.is("unwarmed", x.plantTold(1, 3), 0);
        Due.is("without a fall", x.plantTold(1, 4), 11);
    }

    private static void warmingFromFar() {
        DarkLand x = dam();
        x.plant(2, 0, 100, 40);
        x.run(27);
        Due.is("START of a steam at minute 28", x.deed(2, 1), 1);
        x.run(3);
        Due.is("warmed at 31", x.plantTold(1, 3), 3);
        x.run(16);
        Due.is("as it is off for more than 30 it warms on", x.plantTold(1, 1), 1);
        Due.is("warmed at 47", x.plantTold(1, 3), 19);
        x.run(1);
        Due.is("on at the 20th", x.plantTold(1, 1), 2);

        DarkLand y = dam();
        y.plant(2, 0, 100, 40);
        y.run(25);
        y.deed(2, 1);
        y.run(5);
        Due.is("on at the fifth, when it is off for 30", y.plantTold(1, 1), 2);
    }

    private static void closing() {
        DarkLand x = dam();
        x.node(20);
        x.line(0, 1, 30, 0);
        x.line(1, 2, 5, 0);
        x.line(1, 0, 7, 0);
        Due.is("may(0)", x.may(0), 1);
        Due.is("may(1), both ends dark", x.may(1), 0);
        Due.is("CLOSE between dark ends", x.deed(0, 1), STATE);
        Due.is("OPEN of what is open", x.deed(1, 0), STATE);
        Due.is("CLOSE", x.deed(0, 0), 1);
        Due.is("may(0) of what is closed", x.may(0), 0);
        Due.is("CLOSE of what is closed", x.deed(0, 0), STATE);
        Due.is("may(1) now", x.may(1), 1);
        Due.is("CLOSE of a second one within an island", x.deed(0, 2), 1);
        Due.is("CLOSE on to the third", x.deed(0, 1), 1);
        Due.is("one island", x.nodeTold(2, 1), 0);
        x.run(1);
        Due.is("VOLTS", x.nodeTold(2, 3), 30 + 5 + 7 - 10);
        Due.is("OPEN of one of two", x.deed(1, 0), 1);
        Due.is("still lit", x.nodeTold(2, 0), 1);
        Due.is("OPEN of the other", x.deed(1, 2), 1);
        Due.is("dark at once", x.nodeTold(2, 0), 0);
        Due.is("an island of its own", x.nodeTold(2, 1), 1);
        Due.is("VOLTS stay until the minute", x.nodeTold(2, 3), 32);
        x.run(1);
        Due.is("VOLTS of the dark", x.nodeTold(2, 3), 0);
    }

    private static void swingsApart() {
        DarkLand x = dam();
        x.plant(1, 1, 200, 60);
        x.line(0, 1, 0, 0);
        x.load(0, 29, 0);
        x.deed(2, 1);
        x.run(1);
        Due.is("LIGHT", x.deed(4, 0), 1);
        x.run(1);
        // 58 drawn, 30 put out: -280 by 20 is -14, less a fourth -11
        Due.is("SWING of one", x.nodeTold(0, 2), -11);
        Due.is("SWING of the other", x.nodeTold(1, 2), 0);
        Due.is("11 apart", x.may(0), 0);
        Due.is("CLOSE", x.deed(0, 0), STATE);
        x.run(3);
        // -9, -7, -6 as the dam follows
        Due.is("SWING after three", x.nodeTold(0, 2), -6);
        x.run(2);
        Due.is("SWING after five", x.nodeTold(0, 2), -4);
        Due.is("4 apart", x.may(0), 0);
        x.run(1);
        Due.is("SWING after six", x.nodeTold(0, 2), -3);
        Due.is("3 apart", x.may(0), 1);
        Due.is("CLOSE", x.deed(0, 0), 1);
        // -3 times 20 and 0 times 60, by 80, cut
        Due.is("SWING of both", x.nodeTold(0, 2), 0);
        Due.is("SWING of both", x.nodeTold(1, 2), 0);
    }

    private static void manualLines() {
        DarkLand x = dam();
        x.node(30);
        x.line(0, 1, 0, 1);
        x.crew(2);
        Due.is("no crew there", x.may(0), 0);
        Due.is("CLOSE", x.deed(0, 0), STATE);
        Due.is("go(0, 1)", x.go(0, 1), 20);
        x.run(19);
        Due.is("still on its way", x.may(0), 0);
        x.run(1);
        Due.is("there", x.may(0), 1);
        Due.is("CLOSE", x.deed(0, 0), 1);
        Due.is("go on", x.go(0, 0), 10);
        Due.is("OPEN as it goes from there", x.deed(1, 0), STATE);
        x.run(10);
        Due.is("OPEN from the other end", x.deed(1, 0), 1);
        Due.is("go(0, 2)", x.go(0, 2), 30);
        x.run(30);
        Due.is("CLOSE with none", x.deed(0, 0), STATE);
    }

    private static void crews() {
        DarkLand x = new DarkLand();
        x.node(5);
        x.node(99);
        x.node(5);
        x.crew(0);
        Due.is("go(1, 0)", x.go(1, 0), NONE);
        Due.is("go(-1, 0)", x.go(-1, 0), NONE);
        Due.is("go(0, 3)", x.go(0, 3), NONE);
        Due.is("go(0, -1)", x.go(0, -1), NONE);
        Due.is("go to where it is", x.go(0, 0), 0);
        Due.is("go to a like x", x.go(0, 2), 0);
        Due.is("at once there", x.crewTold(0, 0), 2);
        Due.is("go far", x.go(0, 1), 94);
        Due.is("it is where it goes from", x.crewTold(0, 0), 2);
        Due.is("so far it goes", x.crewTold(0, 1), 94);
        Due.is("go(0, 3) on its way", x.go(0, 3), NONE);
        Due.is("go(0, 0) on its way", x.go(0, 0), STATE);
        x.run(93);
        Due.is("one more", x.crewTold(0, 1), 1);
        Due.is("from there", x.crewTold(0, 0), 2);
        x.run(1);
        Due.is("there", x.crewTold(0, 0), 1);
        Due.is("no more", x.crewTold(0, 1), 0);
    }

    private static void loadsComeBackCold() {
        DarkLand x = dam();
        x.load(0, 15, 0);
        Due.is("DIM of what is off", x.deed(5, 0), STATE);
        Due.is("LIGHT", x.deed(4, 0), 1);
        Due.is("LIGHT of what is on", x.deed(4, 0), STATE);
        for (int m = 0; m < 13; m++) {
            int percent = Math.max(100, 200 - 10 * m);
            Due.is("draw after " + m, x.loadTold(0, 2), 15 * percent / 100);
            x.run(1);
            Due.is("put out after " + m, x.plantTold(0, 2), 15 * percent / 100);
        }
        x.deed(5, 0);
        x.run(29);
        Due.is("dark for 29", x.loadTold(0, 2), 15);
        x.run(1);
        Due.is("dark for 30", x.loadTold(0, 2), 30);
        x.deed(4, 0);
        x.run(1);
        Due.is("lit for 1", x.loadTold(0, 2), 28);
        x.deed(5, 0);
        Due.is("DIM and LIGHT within a minute", x.deed(4, 0), 1);
        Due.is("are nothing to it", x.loadTold(0, 2), 28);
        x.run(1);
        x.deed(5, 0);
        x.run(1);
        Due.is("dark for 1 it is warm", x.loadTold(0, 2), 15);
        x.deed(4, 0);
        x.run(1);
        Due.is("and stays so", x.loadTold(0, 2), 15);
        Due.is("SERVED", x.loadTold(0, 3), 13 + 2 + 1);
        Due.is("DARK", x.loadTold(0, 4), 30 + 1);
    }

    private static void plantsFollow() {
        DarkLand x = dam();
        x.plant(1, 0, 20, 50);
        x.plant(5, 0, 100, 99);
        x.load(0, 40, 0);
        x.deed(2, 1);
        x.run(1);
        x.deed(4, 0);
        x.run(1);
        Due.is("the first follows by its ramp", x.plantTold(0, 2), 30);
        Due.is("the second up to its most", x.plantTold(1, 2), 20);
        Due.is("SPARE", x.nodeTold(0, 4), 170);
        // -30 times 10 by 70 is -4, less a fourth -3
        Due.is("SWING", x.nodeTold(0, 2), -3);
        Due.is("VOLTS", x.nodeTold(0, 3), -8 - 20);
        x.run(1);
        Due.is("the first gets what lacks", x.plantTold(0, 2), 76 - 20);
        Due.is("the second stays", x.plantTold(1, 2), 20);
        x.run(1);
        // 72 drawn: 4 too much
        Due.is("the first gives way", x.plantTold(0, 2), 52);
        x.deed(5, 0);
        x.run(1);
        Due.is("the first falls by its ramp", x.plantTold(0, 2), 22);
        Due.is("the second by all it has", x.plantTold(1, 2), 0);
    }

    private static void swingsTooLowAndTooHigh() {
        for (int draw = 28; draw <= 29; draw++) {
            DarkLand x = new DarkLand();
            x.node(3);
            x.plant(1, 0, 500, 10);
            x.load(0, draw, 0);
            x.deed(2, 0);
            x.run(1);
            x.deed(4, 0);
            x.run(1);
            // 56 or 58 drawn, 30 put out: -26 or -28, less a fourth
            boolean falls = draw == 29;
            aFall(x, falls, 1, 1);
            Due.is("SWING", x.nodeTold(0, 2), falls ? 0 : -20);
            Due.is("lit in that minute", x.loadTold(0, 1), falls ? 0 : 1);
        }
        for (int draw = 11; draw <= 12; draw++) {
            DarkLand x = new DarkLand();
            x.node(0);
            x.plant(1, 0, 500, 10);
            x.deed(2, 0);
            x.run(1);
            for (int l = 0; l < 4; l++) {
                x.load(0, l == 0 ? draw : 15, 0);
                x.deed(4, l);
                x.run(1);
            }
            x.run(25);
            Due.is("put out", x.plantTold(0, 2), 45 + draw);
            Due.is("level", x.nodeTold(0, 2), 0);
            for (int l = 0; l < 4; l++) {
                x.deed(5, l);
            }
            x.run(1);
            // 26 or 27 put out, nothing drawn: so much, less a fourth
            boolean falls = draw == 12;
            aFall(x, falls, 30, 2);
            Due.is("SWING", x.nodeTold(0, 2), falls ? 0 : 20);
        }
    }

    private static void aFall(DarkLand x, boolean falls, int minute, int why) {
        Due.is("falls", x.count(10), falls ? 1 : 0);
        Due.is("its minute", x.fall(0, 0), falls ? minute : NONE);
        Due.is("its node", x.fall(0, 1), falls ? 0 : NONE);
        Due.is("why", x.fall(0, 2), falls ? why : NONE);
        Due.is("the plant", x.plantTold(0, 1), falls ? 0 : 2);
        Due.is("fell", x.plantTold(0, 4), falls ? minute : 0);
        Due.is("lit", x.nodeTold(0, 0), falls ? 0 : 1);
    }

    private static void manyFalls() {
        DarkLand x = new DarkLand();
        x.node(0);
        x.node(0);
        x.node(0);
        x.plant(1, 1, 100, 10);
        x.plant(0, 2, 100, 10);
        x.plant(1, 0, 100, 10);
        x.line(1, 2, 60, 0);
        x.line(2, 1, 1, 0);
        x.deed(2, 2);
        x.deed(2, 0);
        x.run(1);
        x.deed(0, 0);
        x.run(1);
        Due.is("60 less 10 is no fall", x.nodeTold(2, 3), 50);
        x.deed(2, 1);
        x.deed(0, 1);
        for (int i = 0; i < 23; i++) {
            int minute = x.count(0);
            x.run(1);
            Due.is("falls " + i, x.count(10), i + 1);
            Due.is("minute of fall " + i, x.fall(i, 0), i < 20 ? minute : NONE);
            Due.is("node of fall " + i, x.fall(i, 1), i < 20 ? 1 : NONE);
            Due.is("why of fall " + i, x.fall(i, 2), i < 20 ? 3 : NONE);
            Due.is("its lines open", x.lineTold(0) + x.lineTold(1), 0);
            Due.is("what warmed there is off", x.plantTold(1, 1), 0);
            Due.is("and fell", x.plantTold(1, 4), minute);
            Due.is("what is elsewhere is on", x.plantTold(2, 1), 2);
            x.deed(2, 0);
            x.run(1);
            x.deed(0, 0);
            x.deed(0, 1);
            x.deed(2, 1);
        }
    }

    private static void theEndOfTime() {
        DarkLand x = new DarkLand();
        Due.is("run(0)", x.run(0), BAD);
        Due.is("run(101)", x.run(101), BAD);
        Due.is("run(-1)", x.run(-1), BAD);
        for (int i = 1; i < 6; i++) {
            Due.is("run(100)", x.run(100), 100 * i);
        }
        Due.is("run(99)", x.run(99), 599);
        Due.is("run(2)", x.run(2), FULL);
        Due.is("count(0)", x.count(0), 599);
        Due.is("run(101), late", x.run(101), BAD);
        Due.is("run(1)", x.run(1), 600);
        Due.is("run(1), beyond", x.run(1), FULL);
    }
}
