import java.util.Random;

/** Lands told by chance, played by the program and by the plain model side by side. */
public final class ModelTest {
    private static final String[] TEXTS = {
        "when minute = 12 or swing < -90;", "when lit and 1 < held;", "when not lit;", "when volts < -3 or falls;",
        "when 2 * minute - 30 < held + swing * -1 and not (falls = 2);", "when 0;", "when minute - 20 - - 3;",
        "when not not lit = 1 and (minute < 40 or 3 < swing);",
    };

    /** An object is used for at most 512 calls: what a step, its looks and a plan ask, and texts that are fed, come on top. */
    private static final int MOST_ASKED = 400;

    private final Random chance;
    private final DarkLand land = new DarkLand();
    private final Model model = new Model();
    private final String name;
    /** A calm land has plants that follow fast and loads that are small, so that much of it gets lit and stays. */
    private final boolean calm;
    private int calls;
    private int asked;

    private ModelTest(long seed) {
        chance = new Random(seed);
        name = "land " + seed + ": ";
        calm = seed % 3 != 0;
    }

    public static void main(String[] args) {
        int falls = 0;
        int plans = 0;
        int orders = 0;
        int[] whys = new int[4];
        for (long seed = 1; seed <= 800; seed++) {
            ModelTest t = new ModelTest(seed);
            t.build();
            for (int i = 0; i < 90 && t.model.minute < 600 && t.asked < MOST_ASKED; i++) {
                t.step();
                t.compare();
            }
            if (seed % 8 == 0) {
                plans += t.foundAPlan() ? 1 : 0;
            }
            falls += t.model.falls.size();
            orders += (int) t.model.orders.stream().filter(o -> o.done).count();
            t.model.falls.forEach(f -> whys[f[2]]++);
        }
        System.out.println("falls " + falls + " (" + whys[1] + ", " + whys[2] + ", " + whys[3] + "), orders done " + orders);
        Due.holds("falls came", whys[1] > 0 && whys[3] > 0);
        Due.holds("orders were done", orders > 0);
        planLands();
        highLands();
        Due.end();
    }

    /** Lands that are lit bit by bit, and then lose all that they light at once: some swing too high. */
    private static void highLands() {
        int high = 0;
        for (long seed = 2001; seed <= 2100; seed++) {
            ModelTest t = new ModelTest(seed);
            t.node();
            t.model.room(0, 0);
            t.land.room(0, 0);
            int weight = 1 + t.upTo(60);
            t.model.plant(1, 0, 999, weight);
            t.is("plant(1, 0, 999, " + weight + ")", t.land.plant(1, 0, 999, weight), 0);
            t.is("deed(2, 0)", t.land.deed(2, 0), t.model.deed(2, 0) ? 1 : DarkLand.STATE);
            t.run(1);
            for (int l = 0; l < 12; l++) {
                int draw = 1 + t.upTo(24);
                t.model.load(0, draw, l % 10);
                t.land.load(0, draw, l % 10);
                t.is("deed(4, " + l + ")", t.land.deed(4, l), t.model.deed(4, l) ? 1 : DarkLand.STATE);
                t.run(1 + t.upTo(6));
                t.compareNode(0);
            }
            for (int l = 0; l < 12; l++) {
                if (t.upTo(2) > 0) {
                    t.is("deed(5, " + l + ")", t.land.deed(5, l), t.model.deed(5, l) ? 1 : DarkLand.STATE);
                }
            }
            for (int i = 0; i < 8; i++) {
                t.run(0);
                t.compareNode(0);
                t.comparePlant(0);
                t.compareRest();
            }
            high += (int) t.model.falls.stream().filter(f -> f[2] == 2).count();
        }
        System.out.println("swung too high " + high);
        Due.holds("some swung too high", high > 0 && high < 100);
    }

    private static void planLands() {
        int found = 0;
        int sizes = 0;
        for (long seed = 1001; seed <= 1150; seed++) {
            ModelTest t = new ModelTest(seed);
            t.build();
            for (int i = 0; i < 12 && t.model.minute < 60 && t.asked < MOST_ASKED; i++) {
                t.step();
            }
            if (t.foundAPlan()) {
                found++;
                sizes |= 1 << t.land.planned(-1);
            }
        }
        System.out.println("plans found " + found + ", sizes " + Integer.toBinaryString(sizes));
        Due.holds("plans of every size were found", sizes == 0b11110);
    }

    private int upTo(int n) {
        return chance.nextInt(n + 1);
    }

    private void is(String call, long got, long due) {
        asked++;
        Due.is(name + "minute " + model.minute + ": " + call, got, due);
    }

    private void build() {
        int nodes = 1 + upTo(13);
        for (int i = 0; i < nodes; i++) {
            node();
        }
        int lines = upTo(20);
        for (int i = 0; i < lines; i++) {
            line();
        }
        int plants = 1 + upTo(7);
        for (int i = 0; i < plants; i++) {
            plant();
        }
        int loads = upTo(12);
        for (int i = 0; i < loads; i++) {
            load();
        }
        int crews = upTo(4);
        for (int i = 0; i < crews; i++) {
            int at = upTo(nodes - 1);
            is("crew(" + at + ")", land.crew(at), i);
            model.crew(at);
        }
        int rooms = 1 + upTo(3);
        for (int i = 0; i < rooms; i++) {
            int at = upTo(nodes - 1);
            int delay = upTo(3) == 0 ? upTo(30) : upTo(4);
            is("room(" + at + ", " + delay + ")", land.room(at, delay), i);
            model.room(at, delay);
        }
        int texts = upTo(5);
        for (int i = 0; i < texts; i++) {
            String text = TEXTS[upTo(TEXTS.length - 1)];
            model.text(text);
            Tape.feed(land, text);
            is("text()", land.text(), i + 1);
        }
    }

    private void node() {
        int x = upTo(3) == 0 ? upTo(99) : upTo(20);
        is("node(" + x + ")", land.node(x), model.nodes.size());
        model.node(x);
    }

    private void line() {
        if (model.nodes.size() < 2 || model.lines.size() == 20) {
            return;
        }
        int a = upTo(model.nodes.size() - 1);
        int b = (a + 1 + upTo(model.nodes.size() - 2)) % model.nodes.size();
        int charge = calm ? upTo(25) : upTo(4) == 0 ? upTo(99) : upTo(40);
        int manual = upTo(3) == 0 ? 1 : 0;
        is("line(" + a + ", " + b + ", " + charge + ", " + manual + ")", land.line(a, b, charge, manual), model.lines.size());
        model.line(a, b, charge, manual);
    }

    private void plant() {
        if (model.plants.size() == 8) {
            return;
        }
        int kind = upTo(1) == 0 ? 1 + 2 * upTo(1) : upTo(5);
        int at = upTo(model.nodes.size() - 1);
        int most = 1 + upTo(upTo(1) == 0 ? 998 : 200);
        int weight = 1 + upTo(calm ? 15 : 98);
        is("plant(" + kind + ", " + at + ", " + most + ", " + weight + ")", land.plant(kind, at, most, weight), model.plants.size());
        model.plant(kind, at, most, weight);
    }

    private void load() {
        if (model.loads.size() == 12) {
            return;
        }
        int at = upTo(model.nodes.size() - 1);
        int draw = 1 + upTo(calm ? 16 : upTo(4) == 0 ? 998 : 40);
        int rank = upTo(9);
        is("load(" + at + ", " + draw + ", " + rank + ")", land.load(at, draw, rank), model.loads.size());
        model.load(at, draw, rank);
    }

    private void step() {
        calls++;
        switch (upTo(12)) {
            case 0: case 1: case 2: case 3: case 4: deed(); break;
            case 5: case 6: case 7: run(upTo(3)); break;
            case 8: run(upTo(20)); break;
            case 9: go(); break;
            case 10: order(); break;
            case 11: sign(); break;
            default: grow(); break;
        }
    }

    private void grow() {
        switch (upTo(3)) {
            case 0:
                if (model.nodes.size() < 14) {
                    node();
                }
                break;
            case 1: line(); break;
            case 2: plant(); break;
            default: load(); break;
        }
    }

    private int some(int deed) {
        int size = deed < 2 ? model.lines.size() : deed < 4 ? model.plants.size() : model.loads.size();
        return size == 0 ? -1 : upTo(size - 1);
    }

    private int someDeed() {
        int[] likely = {0, 0, 0, 0, 1, 2, 2, 2, 2, calm ? 2 : 3, 4, 4, 4, 4, 5};
        return likely[upTo(likely.length - 1)];
    }

    private void deed() {
        int deed = someDeed();
        for (int tries = 0; tries < 4; tries++) {
            int what = some(deed);
            if (what < 0) {
                is("deed(" + deed + ", 0)", land.deed(deed, 0), DarkLand.NONE);
                return;
            }
            is("deed(" + deed + ", " + what + ")", land.deed(deed, what), model.deed(deed, what) ? 1 : DarkLand.STATE);
        }
    }

    private void run(int more) {
        int n = Math.min(1 + more, 600 - model.minute);
        if (n == 0) {
            is("run(1)", land.run(1), DarkLand.FULL);
            return;
        }
        boolean tell = upTo(3) == 0;
        int lit = tell ? model.beside(n, 0) : 0;
        int fall = tell ? model.beside(n, 1) : 0;
        int worth = tell ? model.beside(n, 2) : 0;
        if (tell) {
            is("beside(" + n + ", 0)", land.beside(n, 0), lit);
            is("beside(" + n + ", 1)", land.beside(n, 1), fall);
            is("beside(" + n + ", 2)", land.beside(n, 2), worth);
        }
        model.run(n);
        is("run(" + n + ")", land.run(n), model.minute);
    }

    private void go() {
        if (model.crews.isEmpty()) {
            return;
        }
        int c = upTo(model.crews.size() - 1);
        int to = upTo(model.nodes.size() - 1);
        boolean goes = model.crews.get(c).left > 0;
        int far = model.far(model.crews.get(c).at, to);
        is("go(" + c + ", " + to + ")", land.go(c, to), goes ? DarkLand.STATE : far);
        if (!goes) {
            model.go(c, to);
        }
    }

    private void order() {
        int deed = someDeed();
        int what = some(deed);
        int room = upTo(model.rooms.size() - 1);
        int text = upTo(model.texts.size() - 1);
        if (what < 0) {
            return;
        }
        int k = model.orders.size();
        is("order(" + room + ", " + text + ", " + deed + ", " + what + ")", land.order(room, text, deed, what), k < 16 ? k : DarkLand.FULL);
        if (k < 16) {
            model.order(room, text, deed, what);
        }
    }

    private void sign() {
        int f = model.signs.size();
        if (f > 0 && upTo(2) == 0) {
            int m = upTo(f - 1);
            boolean was = model.signs.get(m).mended;
            is("mend(" + m + ")", land.mend(m), was ? DarkLand.STATE : 1);
            if (!was) {
                model.mend(m);
            }
            return;
        }
        int room = upTo(model.rooms.size() - 1);
        int minute = Math.max(0, Math.min(600, model.minute - 8 + upTo(20)));
        int what = upTo(3);
        int value = upTo(1) == 0 ? upTo(1) : upTo(60) - 30;
        is("falseSign(..)", land.falseSign(room, minute, what, value), f < 20 ? f : DarkLand.FULL);
        if (f < 20) {
            model.falseSign(room, minute, what, value);
        }
    }

    private void compare() {
        // an object is used for at most 512 calls, so each look is at a few things; the seeds see to the rest
        if (calls % 9 == 0 || upTo(5) == 0) {
            compareNode(upTo(model.nodes.size() - 1));
            comparePlant(upTo(model.plants.size() - 1));
            if (!model.loads.isEmpty()) {
                compareLoad(upTo(model.loads.size() - 1));
            }
            compareRoom(upTo(model.rooms.size() - 1));
            compareRest();
        }
    }

    private void compareNode(int n) {
        Model.Node node = model.nodes.get(n);
        String call = "nodeTold(" + n + ", ";
        is(call + "0)", land.nodeTold(n, 0), model.lit(n) ? 1 : 0);
        is(call + "1)", land.nodeTold(n, 1), model.least(n));
        is(call + "2)", land.nodeTold(n, 2), node.swing);
        is(call + "3)", land.nodeTold(n, 3), node.volts);
        is(call + "4)", land.nodeTold(n, 4), node.spare);
        is(call + "5)", land.nodeTold(n, 5), node.held);
    }

    private void comparePlant(int p) {
        Model.Plant plant = model.plants.get(p);
        String call = "plantTold(" + p + ", ";
        is(call + "0)", land.plantTold(p, 0), plant.kind);
        is(call + "1)", land.plantTold(p, 1), plant.state);
        is(call + "2)", land.plantTold(p, 2), plant.out);
        is(call + "3)", land.plantTold(p, 3), plant.warmed);
        is(call + "4)", land.plantTold(p, 4), plant.fell);
    }

    private void compareLoad(int l) {
        Model.Load load = model.loads.get(l);
        String call = "loadTold(" + l + ", ";
        is(call + "0)", land.loadTold(l, 0), load.on ? 1 : 0);
        is(call + "1)", land.loadTold(l, 1), load.litFor > 0 ? 1 : 0);
        is(call + "2)", land.loadTold(l, 2), model.draws(load));
        is(call + "3)", land.loadTold(l, 3), load.served);
        is(call + "4)", land.loadTold(l, 4), load.dark);
        is(call + "5)", land.loadTold(l, 5), load.rank);
    }

    private void compareRoom(int r) {
        int text = upTo(model.texts.size() - 1);
        is("when(" + r + ", " + text + ")", land.when(r, text), model.when(r, text));
        int minute = model.minute - upTo(33);
        int what = upTo(3);
        boolean seen = minute >= 0 && minute < model.minute && minute >= model.minute - 31;
        is("sees(" + r + ", " + minute + ", " + what + ", 0)", land.sees(r, minute, what, 0), seen ? model.sees(r, minute, what) : DarkLand.NO);
        is("sees(" + r + ", " + minute + ", " + what + ", 1)", land.sees(r, minute, what, 1), seen ? model.was(r, minute, what) : DarkLand.NO);
    }

    private void compareRest() {
        if (!model.lines.isEmpty()) {
            int l = upTo(model.lines.size() - 1);
            is("lineTold(" + l + ")", land.lineTold(l), model.lines.get(l).closed ? 1 : 0);
            is("may(" + l + ")", land.may(l), model.can(0, l) ? 1 : 0);
        }
        if (!model.crews.isEmpty()) {
            int c = upTo(model.crews.size() - 1);
            is("crewTold(" + c + ", 0)", land.crewTold(c, 0), model.crews.get(c).at);
            is("crewTold(" + c + ", 1)", land.crewTold(c, 1), model.crews.get(c).left);
        }
        if (!model.orders.isEmpty()) {
            int k = upTo(model.orders.size() - 1);
            is("ordered(" + k + ")", land.ordered(k), model.orders.get(k).done ? 1 : 0);
        }
        is("count(10)", land.count(10), model.falls.size());
        int i = upTo(21);
        for (int what = 0; what < 3; what++) {
            boolean told = i < 20 && i < model.falls.size();
            is("fall(" + i + ", " + what + ")", land.fall(i, what), told ? model.falls.get(i)[what] : DarkLand.NONE);
        }
    }

    private boolean fits(int[][] choices, int c) {
        int deed = choices[c][0];
        int what = choices[c][1];
        boolean again = false;
        for (int i = 0; i < c; i++) {
            again |= choices[i][0] == deed && choices[i][1] == what;
        }
        return !again && model.has(deed, what) && model.can(deed, what) && (deed != 4 || model.lit(model.loads.get(what).node));
    }

    private boolean foundAPlan() {
        int size = 1 + upTo(4);
        int[][] choices = new int[size][2];
        is("sheet(0, 2, " + 2 * size + ")", land.sheet(0, 2, 2 * size), 1);
        for (int c = 0; c < size; c++) {
            int deed = calm && upTo(3) > 0 ? 4 : someDeed();
            choices[c] = new int[] {deed, upTo(15) == 0 ? 99 : some(deed)};
            for (int tries = 0; tries < 9 && !fits(choices, c); tries++) {
                choices[c][1] = some(deed);
            }
            land.cell(0, 2 * c, deed);
            land.cell(0, 2 * c + 1, choices[c][1]);
        }
        int gap = 1 + upTo(5);
        int n = Math.min(40, 3 * gap + 1 + upTo(15));
        if (model.minute + n > 600) {
            is("plan(0, ..)", land.plan(0, gap, n), DarkLand.NO);
            return false;
        }
        int[] best = model.plan(choices, gap, n);
        is("plan(0, " + gap + ", " + n + ")", land.plan(0, gap, n), best == null ? -1 : best[0]);
        int deeds = best == null ? 0 : best.length - 1;
        is("planned(-1)", land.planned(-1), deeds);
        for (int i = 0; i < 5; i++) {
            is("planned(" + i + ")", land.planned(i), i < deeds ? best[i + 1] : DarkLand.NONE);
        }
        compareNode(0);
        compareRest();
        return deeds > 0;
    }
}
