import java.util.ArrayList;
import java.util.Arrays;
import java.util.HashMap;
import java.util.HashSet;
import java.util.List;
import java.util.Map;
import java.util.Set;
import java.util.TreeSet;
import java.util.function.Consumer;
import java.util.function.ToIntFunction;

/**
 * The document once more, written for plainness alone: every island is walked anew whenever it is asked for,
 * every minute that was is kept for ever, and what would be beside is found by making the land anew from
 * all that was told of it.
 */
final class Model {
    static final class Line { int a, b, charge; boolean manual, closed; }
    static final class Plant { int kind, node, most, weight, state, out, warmed, fell; }
    static final class Load { int node, draw, rank, litFor, darkFor = 60, served, dark; boolean on, cold; }
    static final class Crew { int at, to, left; }
    static final class Room { int node, delay; }
    static final class Sign { int room, minute, what, value; boolean mended; }
    static final class Order { int room, text, deed, what; boolean done; }
    static final class Node { int x, swing, volts, spare, held; }

    final List<Consumer<Model>> told = new ArrayList<>();
    final List<Node> nodes = new ArrayList<>();
    final List<Line> lines = new ArrayList<>();
    final List<Plant> plants = new ArrayList<>();
    final List<Load> loads = new ArrayList<>();
    final List<Crew> crews = new ArrayList<>();
    final List<Room> rooms = new ArrayList<>();
    final List<Sign> signs = new ArrayList<>();
    final List<Order> orders = new ArrayList<>();
    final List<String> texts = new ArrayList<>(List.of("when lit and 4 < held ;"));
    final List<int[]> falls = new ArrayList<>();
    final Map<List<Integer>, Integer> kept = new HashMap<>();
    int minute;

    Model anew() {
        Model m = new Model();
        for (Consumer<Model> c : told) {
            c.accept(m);
        }
        return m;
    }

    private void note(Consumer<Model> call) {
        told.add(call);
        call.accept(this);
    }

    void node(int x) {
        note(m -> { Node n = new Node(); n.x = x; m.nodes.add(n); });
    }

    void line(int a, int b, int charge, int manual) {
        note(m -> { Line l = new Line(); l.a = a; l.b = b; l.charge = charge; l.manual = manual == 1; m.lines.add(l); });
    }

    void plant(int kind, int node, int most, int weight) {
        note(m -> { Plant p = new Plant(); p.kind = kind; p.node = node; p.most = most; p.weight = weight; m.plants.add(p); });
    }

    void load(int node, int draw, int rank) {
        note(m -> { Load l = new Load(); l.node = node; l.draw = draw; l.rank = rank; m.loads.add(l); });
    }

    void crew(int node) {
        note(m -> { Crew c = new Crew(); c.at = node; m.crews.add(c); });
    }

    void room(int node, int delay) {
        note(m -> { Room r = new Room(); r.node = node; r.delay = delay; m.rooms.add(r); });
    }

    void falseSign(int room, int min, int what, int value) {
        note(m -> { Sign s = new Sign(); s.room = room; s.minute = min; s.what = what; s.value = value; m.signs.add(s); });
    }

    void mend(int f) {
        note(m -> m.signs.get(f).mended = true);
    }

    void order(int room, int text, int deed, int what) {
        note(m -> { Order o = new Order(); o.room = room; o.text = text; o.deed = deed; o.what = what; m.orders.add(o); });
    }

    void text(String t) {
        note(m -> m.texts.add(t));
    }

    void go(int crew, int node) {
        note(m -> {
            Crew c = m.crews.get(crew);
            c.left = m.far(c.at, node);
            c.to = node;
            if (c.left == 0) {
                c.at = node;
            }
        });
    }

    int far(int a, int b) {
        return Math.abs(nodes.get(a).x - nodes.get(b).x);
    }

    void run(int n) {
        note(m -> { for (int i = 0; i < n; i++) { m.pass(); } });
    }

    boolean deed(int deed, int what) {
        if (!can(deed, what)) {
            return false;
        }
        note(m -> m.act(deed, what));
        return true;
    }

    Set<Integer> island(int n) {
        TreeSet<Integer> in = new TreeSet<>(Set.of(n));
        boolean grew = true;
        while (grew) {
            grew = false;
            for (Line l : lines) {
                if (l.closed && in.contains(l.a) != in.contains(l.b)) {
                    in.add(l.a);
                    in.add(l.b);
                    grew = true;
                }
            }
        }
        return in;
    }

    int least(int n) {
        return ((TreeSet<Integer>) island(n)).first();
    }

    boolean lit(int n) {
        Set<Integer> in = island(n);
        return plants.stream().anyMatch(p -> p.state == 2 && in.contains(p.node));
    }

    int weight(Set<Integer> in) {
        return plants.stream().filter(p -> p.state == 2 && in.contains(p.node)).mapToInt(p -> p.weight).sum();
    }

    boolean manned(Line l) {
        return !l.manual || crews.stream().anyMatch(c -> c.left == 0 && (c.at == l.a || c.at == l.b));
    }

    boolean can(int deed, int what) {
        switch (deed) {
            case 0: {
                Line l = lines.get(what);
                boolean apart = !island(l.a).contains(l.b);
                boolean both = lit(l.a) && lit(l.b);
                return !l.closed && manned(l) && (lit(l.a) || lit(l.b))
                    && !(both && apart && Math.abs(nodes.get(l.a).swing - nodes.get(l.b).swing) > 3);
            }
            case 1: return lines.get(what).closed && manned(lines.get(what));
            case 2: {
                Plant p = plants.get(what);
                return p.state == 0 && (alone(p.kind) || lit(p.node));
            }
            case 3: return plants.get(what).state != 0;
            case 4: return !loads.get(what).on;
            default: return loads.get(what).on;
        }
    }

    private void act(int deed, int what) {
        switch (deed) {
            case 0: {
                Line l = lines.get(what);
                Set<Integer> a = island(l.a);
                Set<Integer> b = island(l.b);
                if (!a.contains(l.b)) {
                    int s = (nodes.get(l.a).swing * weight(a) + nodes.get(l.b).swing * weight(b)) / (weight(a) + weight(b));
                    Set<Integer> all = new HashSet<>(a);
                    all.addAll(b);
                    all.forEach(n -> nodes.get(n).swing = s);
                }
                l.closed = true;
                break;
            }
            case 1: lines.get(what).closed = false; break;
            case 2: plants.get(what).state = 1; plants.get(what).warmed = 0; break;
            case 3: off(plants.get(what)); plants.get(what).fell = minute; break;
            case 4: loads.get(what).on = true; break;
            default: loads.get(what).on = false; break;
        }
    }

    private static void off(Plant p) {
        p.state = 0;
        p.out = 0;
        p.warmed = 0;
    }

    static boolean alone(int kind) {
        return kind == 1 || kind == 3;
    }

    static int ramp(int kind) {
        return kind == 0 || kind == 2 ? 10 : kind == 1 ? 10 * 3 : kind == 3 ? 10 * 3 + 20 : kind == 4 ? 10 / 2 : 1;
    }

    static int need(int kind, int most) {
        int need = most / 20 + 1;
        return kind == 2 || kind == 4 || kind == 5 ? need * 2 : need;
    }

    static int warms(int kind, int off) {
        int steam = off <= 30 ? 5 : 5 * 4;
        switch (kind) {
            case 0: return 5;
            case 1: case 3: return 1;
            case 2: return steam;
            case 4: return steam + 5;
            default: return off > 30 ? steam + 20 + 100 : steam + 20;
        }
    }

    static int soak(int kind) {
        return kind == 3 ? 10 + 20 : 10;
    }

    int draws(Load l) {
        boolean cold = l.litFor == 0 ? l.darkFor >= 30 : l.cold;
        return l.draw * (cold ? Math.max(100, 200 - 10 * l.litFor) : 100) / 100;
    }

    private void pass() {
        for (Crew c : crews) {
            if (c.left > 0 && --c.left == 0) {
                c.at = c.to;
            }
        }
        for (Order o : orders) {
            if (!o.done && when(o.room, o.text) != 0 && can(o.deed, o.what)) {
                act(o.deed, o.what);
                o.done = true;
            }
        }
        boolean[] wasLit = new boolean[nodes.size()];
        for (int n = 0; n < wasLit.length; n++) {
            wasLit[n] = lit(n);
        }
        for (Plant p : plants) {
            if (p.state != 1) {
                continue;
            }
            if (!alone(p.kind) && !wasLit[p.node]) {
                off(p);
            } else if (++p.warmed >= warms(p.kind, minute - p.fell)) {
                p.state = 2;
                p.out = 0;
            }
        }
        List<Set<Integer>> lit = new ArrayList<>();
        for (int n = 0; n < nodes.size(); n++) {
            if (least(n) == n && lit(n)) {
                lit.add(island(n));
            }
        }
        lit.forEach(this::follow);
        for (Load l : loads) {
            if (l.on && lit(l.node)) {
                if (l.litFor == 0) {
                    l.cold = l.darkFor >= 30;
                }
                l.litFor++;
                l.darkFor = 0;
                l.served++;
            } else {
                l.litFor = 0;
                l.darkFor++;
                l.dark++;
            }
        }
        for (int n = 0; n < nodes.size(); n++) {
            Node node = nodes.get(n);
            if (lit(n)) {
                node.held++;
            } else {
                node.swing = 0;
                node.volts = 0;
                node.spare = 0;
                node.held = 0;
            }
            kept.put(Arrays.asList(minute, n, 0), lit(n) ? 1 : 0);
            kept.put(Arrays.asList(minute, n, 1), node.swing);
            kept.put(Arrays.asList(minute, n, 2), node.volts);
            kept.put(Arrays.asList(minute, n, 3), node.held);
        }
        minute++;
    }

    private void follow(Set<Integer> in) {
        int first = ((TreeSet<Integer>) in).first();
        int demand = 0;
        for (Load l : loads) {
            demand += l.on && in.contains(l.node) ? draws(l) : 0;
        }
        for (Plant p : plants) {
            demand += p.state == 1 && in.contains(p.node) ? need(p.kind, p.most) : 0;
        }
        List<Plant> on = plants.stream().filter(p -> p.state == 2 && in.contains(p.node)).toList();
        for (Plant p : on) {
            int lacks = demand - on.stream().mapToInt(q -> q.out).sum();
            if (lacks > 0) {
                p.out = Math.min(p.most, p.out + Math.min(lacks, ramp(p.kind)));
            } else {
                p.out = Math.max(0, p.out - Math.min(-lacks, ramp(p.kind)));
            }
        }
        int out = on.stream().mapToInt(q -> q.out).sum();
        int swing = nodes.get(first).swing + (out - demand) * 10 / weight(in);
        swing = swing - swing / 4;
        int volts = lines.stream().filter(l -> l.closed && in.contains(l.a)).mapToInt(l -> l.charge).sum() - demand / 10
            - on.stream().mapToInt(p -> soak(p.kind)).sum();
        int spare = on.stream().mapToInt(p -> p.most - p.out).sum();
        for (int n : in) {
            nodes.get(n).swing = swing;
            nodes.get(n).volts = volts;
            nodes.get(n).spare = spare;
        }
        int why = swing < -20 ? 1 : swing > 20 ? 2 : volts > 50 ? 3 : 0;
        if (why != 0) {
            falls.add(new int[] {minute, first, why});
            for (Plant p : plants) {
                if (p.state != 0 && in.contains(p.node)) {
                    off(p);
                    p.fell = minute;
                }
            }
            lines.stream().filter(l -> in.contains(l.a)).forEach(l -> l.closed = false);
        }
    }

    int was(int room, int min, int what) {
        return kept.getOrDefault(Arrays.asList(min, rooms.get(room).node, what), 0);
    }

    int sees(int room, int min, int what) {
        int seen = was(room, min, what);
        for (Sign s : signs) {
            if (!s.mended && s.room == room && s.minute == min && s.what == what) {
                seen = s.value;
            }
        }
        return seen;
    }

    int when(int room, int text) {
        int min = minute - 1 - rooms.get(room).delay;
        Map<String, Integer> names = new HashMap<>();
        String[] seen = {"lit", "swing", "volts", "held"};
        for (int what = 0; what < 4; what++) {
            names.put(seen[what], min < 0 ? 0 : sees(room, min, what));
        }
        names.put("minute", minute);
        names.put("falls", falls.size());
        return new Says(texts.get(text)).value(names::get);
    }

    int worth() {
        return loads.stream().mapToInt(l -> l.served * (l.rank + 1)).sum();
    }

    int beside(int n, int what) {
        Model m = anew();
        m.run(n);
        switch (what) {
            case 0: return (int) m.loads.stream().filter(l -> l.on && m.lit(l.node)).count();
            case 1: return m.falls.size() - falls.size();
            default: return m.worth() - worth();
        }
    }

    /** The growth and the row of the best plan, by playing every row whole; null if there is none. */
    int[] plan(int[][] choices, int gap, int n) {
        int[] best = null;
        List<List<Integer>> rows = new ArrayList<>();
        rows.add(List.of());
        for (int i = 0; i < rows.size(); i++) {
            List<Integer> row = rows.get(i);
            for (int c = 0; c < choices.length && row.size() < 4; c++) {
                if (!row.contains(c)) {
                    List<Integer> longer = new ArrayList<>(row);
                    longer.add(c);
                    rows.add(longer);
                }
            }
        }
        for (List<Integer> row : rows.subList(1, rows.size())) {
            int growth = played(row, choices, gap, n);
            if (growth >= 0 && (best == null || growth > best[0])) {
                best = new int[row.size() + 1];
                best[0] = growth;
                for (int i = 0; i < row.size(); i++) {
                    best[i + 1] = row.get(i);
                }
            }
        }
        return best;
    }

    private int played(List<Integer> row, int[][] choices, int gap, int n) {
        Model m = anew();
        for (int t = 0; t < n; t++) {
            if (t % gap == 0 && t / gap < row.size()) {
                int[] c = choices[row.get(t / gap)];
                if (!m.has(c[0], c[1]) || !m.deed(c[0], c[1])) {
                    return -1;
                }
            }
            m.run(1);
        }
        return m.falls.size() > falls.size() ? -1 : m.worth() - worth();
    }

    boolean has(int deed, int what) {
        int size = deed < 2 ? lines.size() : deed < 4 ? plants.size() : loads.size();
        return what >= 0 && what < size;
    }

    /** A text without a fault, worked out as it is read. */
    static final class Says {
        private final List<String> tokens = new ArrayList<>();
        private int at;
        private ToIntFunction<String> names;

        Says(String text) {
            java.util.regex.Matcher m = java.util.regex.Pattern.compile("[a-z]+|[0-9]+|[();+*<=-]").matcher(text);
            while (m.find()) {
                tokens.add(m.group());
            }
        }

        int value(ToIntFunction<String> named) {
            names = named;
            at = 1;
            return either();
        }

        private boolean next(String token) {
            if (tokens.get(at).equals(token)) {
                at++;
                return true;
            }
            return false;
        }

        private int either() {
            int v = both();
            while (next("or")) {
                int w = both();
                v = v != 0 || w != 0 ? 1 : 0;
            }
            return v;
        }

        private int both() {
            int v = not();
            while (next("and")) {
                int w = not();
                v = v != 0 && w != 0 ? 1 : 0;
            }
            return v;
        }

        private int not() {
            if (next("not")) {
                return not() == 0 ? 1 : 0;
            }
            int v = sum();
            if (next("<")) {
                return v < sum() ? 1 : 0;
            }
            if (next("=")) {
                return v == sum() ? 1 : 0;
            }
            return v;
        }

        private int sum() {
            int v = term();
            while (true) {
                if (next("+")) {
                    v += term();
                } else if (next("-")) {
                    v -= term();
                } else {
                    return v;
                }
            }
        }

        private int term() {
            int v = one();
            while (next("*")) {
                v *= one();
            }
            return v;
        }

        private int one() {
            if (next("-")) {
                return -one();
            }
            if (next("(")) {
                int v = either();
                next(")");
                return v;
            }
            String t = tokens.get(at++);
            return Character.isDigit(t.charAt(0)) ? Integer.parseInt(t) : names.applyAsInt(t);
        }
    }
}
