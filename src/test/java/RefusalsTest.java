import java.util.Random;

/** Calls of any kind with any numbers: none throws, and what is refused or only looked at changes nothing. */
public final class RefusalsTest {
    private static final int[] EDGES = {
        Integer.MIN_VALUE, -1000, -999, -2, -1, 0, 1, 2, 3, 4, 5, 6, 7, 8, 9, 10, 11, 12, 13, 14, 15, 16, 19, 20, 30, 31, 32,
        39, 40, 41, 99, 100, 101, 159, 160, 599, 600, 601, 999, 1000, 65536, Integer.MAX_VALUE - 3, Integer.MAX_VALUE,
    };

    private final Random chance;
    private final DarkLand x = new DarkLand();
    private final DarkLand other = new DarkLand();

    private RefusalsTest(long seed) {
        chance = new Random(seed);
    }

    public static void main(String[] args) {
        for (long seed = 0; seed < 4000; seed++) {
            RefusalsTest t = new RefusalsTest(seed);
            t.build();
            for (int i = 0; i < 200; i++) {
                t.anyCall();
            }
            t.isLike(seed);
        }
        Due.end();
    }

    private int any() {
        return chance.nextInt(3) == 0 ? EDGES[chance.nextInt(EDGES.length)] : chance.nextInt(6);
    }

    private void build() {
        for (int i = 0; i < 5; i++) {
            x.node(3 * i);
            other.node(3 * i);
        }
        for (int i = 0; i < 4; i++) {
            both(1, i, i + 1, 20, i % 2, 0);
            both(2, 1 + i % 2, i, 100, 30, 0);
            both(3, i, 10, i, 0, 0);
        }
        both(4, 0, 0, 0, 0, 0);
        both(5, 1, 1, 0, 0, 0);
    }

    private void anyCall() {
        int call = chance.nextInt(34);
        int a = any();
        int b = any();
        int c = any();
        int d = any();
        int e = any();
        if (call == 10 && c % 4 != 0) {
            call = 8;
        }
        both(call, a, b, c, d, e);
    }

    /** Does it to the one; to the other too, unless it was a look or was refused: then they must stay alike. */
    private void both(int call, int a, int b, int c, int d, int e) {
        long got = call(x, call, a, b, c, d, e);
        boolean looked = call >= 11 && call <= 16 || call == 19 || call == 21 || call == 22 || call == 25 || call == 28 || call == 33 || call == 7 || call == 8;
        boolean tells = call == 27 || call == 32 || call == 23;
        if (tells || !looked && got >= 0) {
            Due.is("call " + call, call(other, call, a, b, c, d, e), got);
        }
    }

    private static long call(DarkLand x, int call, int a, int b, int c, int d, int e) {
        switch (call) {
            case 0: return x.node(a);
            case 1: return x.line(a, b, c, d);
            case 2: return x.plant(a, b, c, d);
            case 3: return x.load(a, b, c);
            case 4: return x.crew(a);
            case 5: return x.room(a, b);
            case 6: return x.deed(a, b);
            case 7: return x.kindTold(a, b, c, d);
            case 8: return x.may(a);
            case 9: return x.go(a, b);
            case 10: return x.run(a);
            case 11: return x.nodeTold(a, b);
            case 12: return x.plantTold(a, b);
            case 13: return x.loadTold(a, b);
            case 14: return x.lineTold(a);
            case 15: return x.crewTold(a, b);
            case 16: return x.fall(a, b);
            case 17: return x.falseSign(a, b, c, d);
            case 18: return x.mend(a);
            case 19: return x.sees(a, b, c, d);
            case 20: return x.order(a, b, c, d);
            case 21: return x.ordered(a);
            case 22: return x.when(a, b);
            case 23: return x.plan(a, b, c);
            case 24: return x.sheet(a, b, c);
            case 25: return x.beside(a, b);
            case 26: return x.feed((long) a << 32 | b, c);
            case 27: return x.text();
            case 28: return x.count(a);
            case 29: return x.cell(a, b, c);
            case 30: return x.copy(a, b, c, d, e);
            case 31: return x.planned(a);
            case 32: return x.lines(a, b, c, d);
            default: return x.taken(a, b);
        }
    }

    /** Looks at a part of all, by chance: an object is used for at most 512 calls. */
    private void isLike(long seed) {
        String in = "seed " + seed + ", ";
        for (int what = 0; what < 12; what++) {
            Due.is(in + "count", x.count(what), other.count(what));
        }
        for (int k = 0; k < 6; k++) {
            int i = chance.nextInt(k < 3 ? 5 : 20);
            Due.is(in + "lineTold", x.lineTold(i), other.lineTold(i));
            Due.is(in + "ordered", x.ordered(i), other.ordered(i));
            for (int what = 0; what < 6; what++) {
                Due.is(in + "nodeTold", x.nodeTold(i, what), other.nodeTold(i, what));
                Due.is(in + "plantTold", x.plantTold(i, what), other.plantTold(i, what));
                Due.is(in + "loadTold", x.loadTold(i, what), other.loadTold(i, what));
                Due.is(in + "when", x.when(k % 4, what), other.when(k % 4, what));
            }
            for (int what = 0; what < 3; what++) {
                Due.is(in + "crewTold", x.crewTold(i % 4, what), other.crewTold(i % 4, what));
                Due.is(in + "fall", x.fall(i, what), other.fall(i, what));
            }
            int minute = x.count(0) - 1 - chance.nextInt(32);
            for (int what = 0; what < 4; what++) {
                Due.is(in + "sees", x.sees(k % 4, minute, what, k % 2), other.sees(k % 4, minute, what, k % 2));
            }
        }
        for (int s = 0; s < 4; s++) {
            Due.is(in + "plan", x.plan(s, 1, 10), other.plan(s, 1, 10));
            Due.is(in + "planned", x.planned(-1), other.planned(-1));
            for (int sort = 0; sort < 3; sort++) {
                int from = chance.nextInt(40);
                Due.is(in + "lines", x.lines(s, sort, from, 1), other.lines(s, sort, from, 1));
            }
        }
    }
}
