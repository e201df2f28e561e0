import java.util.function.Consumer;
import java.util.function.ToLongFunction;

/**
 * Two lands that hold a bit of everything and were told alike. A call that is refused is made at one of them,
 * and then all that can be looked at must be alike in both: "They change nothing".
 */
final class Twins {
    private static final Consumer<DarkLand> NOTHING = x -> { };

    private Twins() {
    }

    static void refuses(String call, ToLongFunction<DarkLand> refused, long due) {
        refusesBehind(NOTHING, call, refused, due);
    }

    /** The same, but both are told more first (some 150 calls at most: an object is used for 512). */
    static void refusesBehind(Consumer<DarkLand> more, String call, ToLongFunction<DarkLand> refused, long due) {
        DarkLand one = land();
        DarkLand other = land();
        more.accept(one);
        more.accept(other);
        Due.is(call, refused.applyAsLong(one), due);
        String[] seen = look(one).split(" ");
        String[] unchanged = look(other).split(" ");
        Due.is("looks behind " + call, seen.length, unchanged.length);
        for (int i = 0; i < seen.length && i < unchanged.length; i++) {
            Due.holds(call + " changed: " + seen[i] + " was " + unchanged[i], seen[i].equals(unchanged[i]));
        }
    }

    /** Like refuses, but of a look: it answers what is due, and changes nothing either. */
    static void looks(String call, ToLongFunction<DarkLand> look, long due) {
        refuses(call, look, due);
    }

    /**
     * Nodes 0 (x 0), 1 (10), 2, 3 (20); at minute 4; island 0, 1 is lit by a dam; a fall came at node 2; crew 1
     * goes; order 0 is done; text 1 stands, "when 1" is on the tape; sign 0 is mended; sheet 0 was planned by.
     */
    static DarkLand land() {
        DarkLand x = new DarkLand();
        x.node(0);
        x.node(10);
        x.node(20);
        x.node(20);
        x.line(0, 1, 10, 0);
        x.line(1, 2, 30, 1);
        x.line(2, 3, 40, 0);
        x.plant(1, 0, 200, 20);
        x.plant(4, 2, 300, 40);
        x.plant(3, 3, 100, 9);
        x.load(0, 20, 3);
        x.load(1, 30, 9);
        x.load(3, 40, 1);
        x.crew(0);
        x.crew(2);
        x.room(1, 2);
        x.room(0, 0);
        Tape.read(x, "when held;");
        Tape.feed(x, "when 1");
        x.order(1, 1, 4, 0);
        x.order(0, 0, 4, 1);
        x.falseSign(1, 3, 1, 7);
        x.falseSign(1, 2, 3, 50);
        x.mend(0);
        x.deed(2, 0);
        x.deed(2, 2);
        x.run(1);
        x.deed(0, 0);
        x.deed(0, 2);
        x.deed(4, 2);
        x.run(3);
        x.go(1, 0);
        sheet(x, 0, 2, 4, 1, 0, 1, 5, 0);
        x.plan(0, 2, 9);
        sheet(x, 1, 1, 0, 1, 2, 0, 1, 2, 3, 1);
        x.sheet(2, 0, 0);
        return x;
    }

    static void sheet(DarkLand x, int s, int sort, int... cells) {
        x.sheet(s, sort, cells.length);
        for (int i = 0; i < cells.length; i++) {
            if (cells[i] != 0) {
                x.cell(s, i, cells[i]);
            }
        }
    }

    /** All that can be looked at, then what comes of it, then what a plan, the tape, the sheets, the x of nodes hold. */
    private static String look(DarkLand x) {
        StringBuilder to = new StringBuilder();
        things(x, to);
        lastOnes(x, to);
        rooms(x, to);
        ahead(x, to);
        told(to, "run(2)", x.run(2));
        for (int n = 0; n < 4; n++) {
            told(to, "nodeTold(" + n + ",2),then", x.nodeTold(n, 2));
            told(to, "nodeTold(" + n + ",3),then", x.nodeTold(n, 3));
            told(to, "nodeTold(" + n + ",4),then", x.nodeTold(n, 4));
        }
        tape(x, to);
        lines(x, to);
        told(to, "run(4)", x.run(4));
        things(x, to);
        places(x, to);
        return to.toString();
    }

    private static void told(StringBuilder to, String call, long answer) {
        to.append(call).append('=').append(answer).append(' ');
    }

    private static void things(DarkLand x, StringBuilder to) {
        for (int what = 0; what < 12; what++) {
            told(to, "count(" + what + ")", x.count(what));
        }
        for (int what = 0; what < 6; what++) {
            for (int n = 0; n < 4; n++) {
                told(to, "nodeTold(" + n + "," + what + ")", x.nodeTold(n, what));
            }
            for (int i = 0; i < 3; i++) {
                told(to, "plantTold(" + i + "," + what + ")", what == 5 ? 0 : x.plantTold(i, what));
                told(to, "loadTold(" + i + "," + what + ")", x.loadTold(i, what));
            }
        }
        for (int i = 0; i < 3; i++) {
            told(to, "lineTold(" + i + ")", x.lineTold(i));
            told(to, "may(" + i + ")", x.may(i));
            told(to, "fall(0," + i + ")", x.fall(0, i));
            told(to, "fall(1," + i + ")", x.fall(1, i));
        }
        for (int c = 0; c < 2; c++) {
            told(to, "crewTold(" + c + ",0)", x.crewTold(c, 0));
            told(to, "crewTold(" + c + ",1)", x.crewTold(c, 1));
            told(to, "ordered(" + c + ")", x.ordered(c));
        }
    }

    /** Of each sort the last, as more were told than those that things() looks at. */
    private static void lastOnes(DarkLand x, StringBuilder to) {
        int load = x.count(4) - 1;
        told(to, "lastNode", x.nodeTold(x.count(1) - 1, 1));
        told(to, "lastLine", x.may(x.count(2) - 1));
        told(to, "lastPlant", x.plantTold(x.count(3) - 1, 0));
        told(to, "lastPlantsMost", x.taken(x.count(3) - 1, 0));
        told(to, "lastLoad", x.loadTold(load, 2));
        told(to, "lastLoadsRank", x.loadTold(load, 5));
        told(to, "lastCrew", x.crewTold(x.count(5) - 1, 0));
        told(to, "lastRoom", x.when(x.count(6) - 1, 1));
        told(to, "lastText", x.when(1, x.count(8) - 1));
        told(to, "lastOrder", x.ordered(x.count(7) - 1));
    }

    private static void rooms(DarkLand x, StringBuilder to) {
        for (int minute = 0; minute < 4; minute++) {
            for (int what = 0; what < 4; what++) {
                told(to, "sees(0," + minute + "," + what + ",0)", x.sees(0, minute, what, 0));
                told(to, "sees(1," + minute + "," + what + ",0)", x.sees(1, minute, what, 0));
                told(to, "sees(0," + minute + "," + what + ",1)", x.sees(0, minute, what, 1));
            }
        }
        for (int room = 0; room < 2; room++) {
            told(to, "when(" + room + ",0)", x.when(room, 0));
            told(to, "when(" + room + ",1)", x.when(room, 1));
        }
    }

    private static void ahead(DarkLand x, StringBuilder to) {
        for (int i = -1; i < 2; i++) {
            told(to, "planned(" + i + ")", x.planned(i));
        }
        for (int what = 0; what < 3; what++) {
            told(to, "beside(6," + what + ")", x.beside(6, what));
        }
        told(to, "plan(0,2,9)", x.plan(0, 2, 9));
        told(to, "planned(-1),anew", x.planned(-1));
    }

    private static void tape(DarkLand x, StringBuilder to) {
        told(to, "feed", x.feed(';', 1));
        told(to, "text", x.text());
        told(to, "when(0,2)", x.when(0, 2));
    }

    /** Load 2 is dimmed first, as a line to it would make the island fall. */
    private static void lines(DarkLand x, StringBuilder to) {
        told(to, "cell(2,0,0)", x.cell(2, 0, 0));
        told(to, "cell(3,0,0)", x.cell(3, 0, 0));
        told(to, "deed(5,2)", x.deed(5, 2));
        if (x.count(2) < 20) {
            told(to, "lines(1,1,0,2)", x.lines(1, 1, 0, 2));
        }
        int lines = x.count(2);
        told(to, "deed(0,last)", x.deed(0, lines - 1));
        told(to, "deed(0,lastButOne)", x.deed(0, lines - 2));
    }

    /** How far it is to NODE 0 from where crew 0 is not, and to the last. */
    private static void places(DarkLand x, StringBuilder to) {
        told(to, "go(0,last)", x.go(0, x.count(1) - 1));
        told(to, "crew(1)", x.crew(1));
        told(to, "go(2,0)", x.go(2, 0));
        told(to, "crew(3)", x.crew(3));
        told(to, "go(3,2)", x.go(3, 2));
    }
}
