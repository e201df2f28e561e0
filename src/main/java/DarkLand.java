/** A land whose power is all gone, and how it comes back minute by minute. */
public final class DarkLand {
    public static final int NONE = -1, BAD = -2, STATE = -3, FULL = -4;
    public static final long NO = -4611686018427387904L;

    private static final int NO_NODE = -100000, NO_WHAT = -200000, FAULT = -100;
    private static final int MISSING = -11, OUTSIDE = -12, OTHER_SORT = -13, BELOW_ZERO = -14;

    private static final int LAST_MINUTE = 600, LONGEST_RUN = 100;
    private static final int NODES = 14, LINES = 20, PLANTS = 8, LOADS = 12, CREWS = 4, ROOMS = 4;
    private static final int FALLS = 20, SIGNS = 20, ORDERS = 16, TEXTS = 6, TAPE = 160;
    private static final int SHEETS = 4, CELLS = 40, CHOICES = 5, ROW = 4;
    private static final String FIRST_TEXT = "when lit and 4 < held ;";

    private static final int KINDS = 6, DEEDS = 6;
    private static final int CLOSE = 0, OPEN = 1, START = 2, STOP = 3, LIGHT = 4, DIM = 5;
    private static final int OFF = 0, WARMING = 1, ON = 2;

    /** One more than the longest look back, so that the minute being kept never wipes one still seen. */
    private static final int KEPT = 32;
    private static final int SEEN_LIT = 0, SEEN_SWING = 1, SEEN_VOLTS = 2, SEEN_HELD = 3, SEEN = 4;

    private final Facts facts = new Facts();
    private final Rooms rooms = new Rooms();
    private final Texts texts = new Texts();
    private final Land land = new Land(facts, rooms, texts);
    private final Planner planner = new Planner(facts, land, rooms, texts);
    private final Sheet[] sheets = new Sheet[SHEETS];

    public DarkLand() {
        for (int s = 0; s < SHEETS; s++) {
            sheets[s] = new Sheet();
        }
        for (int i = 0; i < FIRST_TEXT.length(); i++) {
            texts.tape[texts.fed++] = FIRST_TEXT.charAt(i);
        }
        texts.takeTape();
    }

    public int node(int x) {
        if (!within(x, 0, 99)) {
            return BAD;
        }
        if (facts.nodes >= NODES) {
            return FULL;
        }
        facts.nodeX[facts.nodes] = x;
        return facts.nodes++;
    }

    public int line(int a, int b, int charge, int manual) {
        if (!isOf(a, facts.nodes) || !isOf(b, facts.nodes)) {
            return NONE;
        }
        if (a == b || !within(charge, 0, 99) || !within(manual, 0, 1)) {
            return BAD;
        }
        if (facts.lines >= LINES) {
            return FULL;
        }
        int l = facts.lines++;
        facts.lineA[l] = a;
        facts.lineB[l] = b;
        facts.lineCharge[l] = charge;
        facts.lineManual[l] = manual == 1;
        return l;
    }

    public int plant(int kind, int node, int most, int weight) {
        if (!isOf(node, facts.nodes)) {
            return NONE;
        }
        if (!isOf(kind, KINDS) || !within(most, 1, 999) || !within(weight, 1, 99)) {
            return BAD;
        }
        if (facts.plants >= PLANTS) {
            return FULL;
        }
        int p = facts.plants++;
        facts.plantKind[p] = kind;
        facts.plantNode[p] = node;
        facts.plantMost[p] = most;
        facts.plantWeight[p] = weight;
        return p;
    }

    public int load(int node, int draw, int rank) {
        if (!isOf(node, facts.nodes)) {
            return NONE;
        }
        if (!within(draw, 1, 999) || !within(rank, 0, 9)) {
            return BAD;
        }
        if (facts.loads >= LOADS) {
            return FULL;
        }
        int l = facts.loads++;
        facts.loadNode[l] = node;
        facts.loadDraw[l] = draw;
        facts.loadRank[l] = rank;
        return l;
    }

    public int crew(int node) {
        if (!isOf(node, facts.nodes)) {
            return NONE;
        }
        if (facts.crews >= CREWS) {
            return FULL;
        }
        land.crewAt[facts.crews] = node;
        return facts.crews++;
    }

    public int room(int node, int delay) {
        if (!isOf(node, facts.nodes)) {
            return NONE;
        }
        if (!within(delay, 0, 30)) {
            return BAD;
        }
        if (rooms.rooms >= ROOMS) {
            return FULL;
        }
        rooms.roomNode[rooms.rooms] = node;
        rooms.roomDelay[rooms.rooms] = delay;
        return rooms.rooms++;
    }

    public int kindTold(int kind, int what, int most, int off) {
        if (!isOf(kind, KINDS) || !within(most, 1, 999) || !within(off, 0, 999)) {
            return BAD;
        }
        switch (what) {
            case 0: return Kind.ramp(kind);
            case 1: return Kind.need(kind, most);
            case 2: return Kind.warms(kind, off);
            case 3: return Kind.soak(kind);
            case 4: return Kind.startsAlone(kind) ? 1 : 0;
            default: return BAD;
        }
    }

    public int deed(int deed, int what) {
        if (!isOf(deed, DEEDS)) {
            return BAD;
        }
        if (!facts.has(deed, what)) {
            return NONE;
        }
        return land.tried(deed, what) ? 1 : STATE;
    }

    public int may(int line) {
        if (!isOf(line, facts.lines)) {
            return NONE;
        }
        return land.can(CLOSE, line) ? 1 : 0;
    }

    public int go(int crew, int node) {
        if (!isOf(crew, facts.crews) || !isOf(node, facts.nodes)) {
            return NONE;
        }
        if (land.crewLeft[crew] > 0) {
            return STATE;
        }
        return land.send(crew, node);
    }

    public int run(int n) {
        if (!within(n, 1, LONGEST_RUN)) {
            return BAD;
        }
        if (land.minute + n > LAST_MINUTE) {
            return FULL;
        }
        land.pass(n, false);
        return land.minute;
    }

    public int nodeTold(int n, int what) {
        if (!isOf(n, facts.nodes)) {
            return NO_NODE;
        }
        Nodes nodes = land.nodes;
        switch (what) {
            case 0: return nodes.lit[n] ? 1 : 0;
            case 1: return nodes.island[n];
            case 2: return nodes.swing[n];
            case 3: return nodes.volts[n];
            case 4: return nodes.spare[n];
            case 5: return nodes.held[n];
            default: return NO_WHAT;
        }
    }

    public int plantTold(int p, int what) {
        if (!isOf(p, facts.plants)) {
            return NONE;
        }
        switch (what) {
            case 0: return facts.plantKind[p];
            case 1: return land.plants.state[p];
            case 2: return land.plants.out[p];
            case 3: return land.plants.warmed[p];
            case 4: return land.plants.fell[p];
            default: return BAD;
        }
    }

    public int loadTold(int l, int what) {
        if (!isOf(l, facts.loads)) {
            return NONE;
        }
        Loads loads = land.loads;
        switch (what) {
            case 0: return loads.on[l] ? 1 : 0;
            case 1: return loads.litFor[l] > 0 ? 1 : 0;
            case 2: return loads.draw(l, facts.loadDraw[l]);
            case 3: return loads.served[l];
            case 4: return loads.dark[l];
            case 5: return facts.loadRank[l];
            default: return BAD;
        }
    }

    public int lineTold(int l) {
        if (!isOf(l, facts.lines)) {
            return NONE;
        }
        return land.closed[l] ? 1 : 0;
    }

    public int crewTold(int c, int what) {
        if (!isOf(c, facts.crews)) {
            return NONE;
        }
        switch (what) {
            case 0: return land.crewAt[c];
            case 1: return land.crewLeft[c];
            default: return BAD;
        }
    }

    public int fall(int i, int what) {
        if (!isOf(i, Math.min(land.falls, FALLS))) {
            return NONE;
        }
        switch (what) {
            case 0: return land.fallMinute[i];
            case 1: return land.fallNode[i];
            case 2: return land.fallWhy[i];
            default: return BAD;
        }
    }

    public int falseSign(int room, int minute, int what, int value) {
        if (!isOf(room, rooms.rooms)) {
            return NONE;
        }
        if (!within(minute, 0, LAST_MINUTE) || !isOf(what, SEEN) || !within(value, -999, 999)) {
            return BAD;
        }
        if (rooms.signs >= SIGNS) {
            return FULL;
        }
        int f = rooms.signs++;
        rooms.signRoom[f] = room;
        rooms.signMinute[f] = minute;
        rooms.signWhat[f] = what;
        rooms.signValue[f] = value;
        return f;
    }

    public int mend(int f) {
        if (!isOf(f, rooms.signs)) {
            return NONE;
        }
        if (rooms.signMended[f]) {
            return STATE;
        }
        rooms.signMended[f] = true;
        return 1;
    }

    public long sees(int room, int minute, int what, int as) {
        if (!isOf(room, rooms.rooms) || !isOf(what, SEEN) || !within(as, 0, 1)) {
            return NO;
        }
        if (!within(minute, Math.max(0, land.minute - KEPT + 1), land.minute - 1)) {
            return NO;
        }
        int was = land.nodes.keptOf(minute, rooms.roomNode[room], what);
        return as == 1 ? was : rooms.told(room, minute, what, was);
    }

    public int order(int room, int text, int deed, int what) {
        if (!isOf(room, rooms.rooms) || !isOf(text, texts.texts)) {
            return NONE;
        }
        if (!isOf(deed, DEEDS)) {
            return BAD;
        }
        if (!facts.has(deed, what)) {
            return NONE;
        }
        if (rooms.orders >= ORDERS) {
            return FULL;
        }
        int k = rooms.orders++;
        rooms.orderRoom[k] = room;
        rooms.orderText[k] = text;
        rooms.orderDeed[k] = deed;
        rooms.orderWhat[k] = what;
        return k;
    }

    public int ordered(int k) {
        if (!isOf(k, rooms.orders)) {
            return NONE;
        }
        return land.done[k] ? 1 : 0;
    }

    public long when(int room, int text) {
        if (!isOf(room, rooms.rooms) || !isOf(text, texts.texts)) {
            return NO;
        }
        return land.comesTo(room, text);
    }

    public long plan(int sheet, int gap, int n) {
        if (!isOf(sheet, SHEETS) || !sheets[sheet].holdsChoices()) {
            return NO;
        }
        if (!within(gap, 1, 10) || !within(n, 1, 40) || n <= 3 * gap || land.minute + n > LAST_MINUTE) {
            return NO;
        }
        planner.begin(sheets[sheet], gap, n);
        planner.extend(0);
        return planner.bestGrowth;
    }

    public int planned(int i) {
        if (i == -1) {
            return planner.bestSize;
        }
        return isOf(i, planner.bestSize) ? planner.best[i] : NONE;
    }

    public int beside(int n, int what) {
        if (!within(n, 1, LONGEST_RUN) || !within(what, 0, 2)) {
            return BAD;
        }
        if (land.minute + n > LAST_MINUTE) {
            return FULL;
        }
        Land then = planner.then;
        then.become(land);
        then.pass(n, false);
        switch (what) {
            case 0: return then.loadsLit();
            case 1: return then.falls - land.falls;
            default: return then.worth() - land.worth();
        }
    }

    public int feed(long w, int n) {
        if (!within(n, 1, 8)) {
            return BAD;
        }
        if (texts.fed + n > TAPE) {
            return FULL;
        }
        for (int i = n - 1; i >= 0; i--) {
            texts.tape[texts.fed++] = (int) (w >>> 8 * i) & 255;
        }
        return texts.fed;
    }

    public int text() {
        if (texts.texts >= TEXTS) {
            return FULL;
        }
        int fault = texts.takeTape();
        return fault < 0 ? texts.texts - 1 : FAULT - fault;
    }

    public int count(int what) {
        switch (what) {
            case 0: return land.minute;
            case 1: return facts.nodes;
            case 2: return facts.lines;
            case 3: return facts.plants;
            case 4: return facts.loads;
            case 5: return facts.crews;
            case 6: return rooms.rooms;
            case 7: return rooms.orders;
            case 8: return texts.texts;
            case 9: return texts.fed;
            case 10: return land.falls;
            case 11: return rooms.signs;
            default: return BAD;
        }
    }

    public int sheet(int s, int sort, int n) {
        if (!isOf(s, SHEETS) || !within(sort, Sheet.NO_SORT, Sheet.INTS)) {
            return BAD;
        }
        if (sort == Sheet.NO_SORT) {
            sheets[s].become(sort, 0);
            return 1;
        }
        if (n > CELLS) {
            return BAD;
        }
        if (n < 0) {
            return BELOW_ZERO;
        }
        sheets[s].become(sort, n);
        return 1;
    }

    public int cell(int s, int i, int v) {
        if (!isOf(s, SHEETS)) {
            return BAD;
        }
        if (sheets[s].isMissing()) {
            return MISSING;
        }
        if (!sheets[s].holds(i, 1)) {
            return OUTSIDE;
        }
        sheets[s].put(i, v);
        return 1;
    }

    public int copy(int s, int i, int other, int j, int n) {
        if (!isOf(s, SHEETS) || !isOf(other, SHEETS)) {
            return BAD;
        }
        Sheet from = sheets[s];
        Sheet to = sheets[other];
        if (from.isMissing() || to.isMissing()) {
            return MISSING;
        }
        if (from.sort != to.sort) {
            return OTHER_SORT;
        }
        if (!from.holds(i, n) || !to.holds(j, n)) {
            return OUTSIDE;
        }
        System.arraycopy(from.row, i, to.row, j, n);
        return n;
    }

    public int lines(int s, int sort, int from, int n) {
        if (!isOf(s, SHEETS) || !within(sort, Sheet.BYTES, Sheet.INTS) || !within(n, 0, 10)) {
            return BAD;
        }
        Sheet sheet = sheets[s];
        if (sheet.isMissing()) {
            return MISSING;
        }
        if (sheet.sort != sort) {
            return OTHER_SORT;
        }
        int came = 0;
        for (int i = 0; i < n; i++) {
            if (!sheet.holds(from, 4 * i + 4)) {
                return OUTSIDE;
            }
            int at = from + 4 * i;
            if (line(sheet.row[at], sheet.row[at + 1], sheet.row[at + 2], sheet.row[at + 3]) >= 0) {
                came++;
            }
        }
        return came;
    }

    public int taken(int p, int kind) {
        if (!isOf(kind, KINDS)) {
            return BAD;
        }
        if (!isOf(p, facts.plants)) {
            return MISSING;
        }
        return Kind.isOne(facts.plantKind[p], kind) ? facts.plantMost[p] : OTHER_SORT;
    }

    private static boolean within(int v, int low, int high) {
        return low <= v && v <= high;
    }

    private static boolean isOf(int number, int count) {
        return 0 <= number && number < count;
    }

    /** The kinds of plants, by their numbers; what a kind does not tell of itself stands here as of the one above. */
    private static final class Kind {
        private static final int PLANT_WARMS = 5, STEAM = 2, COAL = 4, ATOM = 5, COLD_AFTER = 30;
        private static final int[] ABOVE = {-1, 0, 0, 1, 2, 2};
        private static final int[] RAMP = {10, 30, 10, 50, 5, 1};
        private static final int[] NEED_TIMES = {1, 1, 2, 1, 2, 2};
        private static final int[] SOAK = {10, 10, 10, 30, 10, 10};
        private static final int[] ALONE = {0, 1, 0, 1, 0, 0};

        static boolean isOne(int kind, int other) {
            int k = kind;
            for (int steps = 0; steps < KINDS && k >= 0; steps++) {
                if (k == other) {
                    return true;
                }
                k = ABOVE[k];
            }
            return false;
        }

        static int ramp(int kind) {
            return RAMP[kind];
        }

        static int need(int kind, int most) {
            return (most / 20 + 1) * NEED_TIMES[kind];
        }

        static int soak(int kind) {
            return SOAK[kind];
        }

        static boolean startsAlone(int kind) {
            return ALONE[kind] == 1;
        }

        static int warms(int kind, int off) {
            if (startsAlone(kind)) {
                return 1;
            }
            boolean cold = off > COLD_AFTER;
            int steam = cold ? 4 * PLANT_WARMS : PLANT_WARMS;
            switch (kind) {
                case STEAM: return steam;
                case COAL: return steam + 5;
                case ATOM: return steam + (cold ? 120 : 20);
                default: return PLANT_WARMS;
            }
        }
    }

    /** What is told of the land once and never changes; every land played beside shares it. */
    private static final class Facts {
        int nodes, lines, plants, loads, crews;
        final int[] nodeX = new int[NODES];
        final int[] lineA = new int[LINES], lineB = new int[LINES], lineCharge = new int[LINES];
        final boolean[] lineManual = new boolean[LINES];
        final int[] plantKind = new int[PLANTS], plantNode = new int[PLANTS];
        final int[] plantMost = new int[PLANTS], plantWeight = new int[PLANTS];
        final int[] loadNode = new int[LOADS], loadDraw = new int[LOADS], loadRank = new int[LOADS];

        boolean has(int deed, int what) {
            switch (deed) {
                case CLOSE: case OPEN: return isOf(what, lines);
                case START: case STOP: return isOf(what, plants);
                case LIGHT: case DIM: return isOf(what, loads);
                default: return false;
            }
        }
    }

    /** The rooms, their false signs, and the orders given them. */
    private static final class Rooms {
        int rooms, signs, orders;
        final int[] roomNode = new int[ROOMS], roomDelay = new int[ROOMS];
        final int[] signRoom = new int[SIGNS], signMinute = new int[SIGNS];
        final int[] signWhat = new int[SIGNS], signValue = new int[SIGNS];
        final boolean[] signMended = new boolean[SIGNS];
        final int[] orderRoom = new int[ORDERS], orderText = new int[ORDERS];
        final int[] orderDeed = new int[ORDERS], orderWhat = new int[ORDERS];

        int told(int room, int minute, int what, int was) {
            for (int f = signs - 1; f >= 0; f--) {
                if (!signMended[f] && signRoom[f] == room && signMinute[f] == minute && signWhat[f] == what) {
                    return signValue[f];
                }
            }
            return was;
        }
    }

    /** The nodes of one land, and what was kept of their last minutes. */
    private static final class Nodes {
        final int[] island = new int[NODES];
        final boolean[] lit = new boolean[NODES];
        final int[] swing = new int[NODES], volts = new int[NODES], spare = new int[NODES];
        final int[] held = new int[NODES];
        private final int[] kept = new int[KEPT * NODES * SEEN];

        Nodes() {
            for (int n = 0; n < NODES; n++) {
                island[n] = n;
            }
        }

        void become(Nodes other) {
            System.arraycopy(other.island, 0, island, 0, NODES);
            System.arraycopy(other.lit, 0, lit, 0, NODES);
            System.arraycopy(other.swing, 0, swing, 0, NODES);
            System.arraycopy(other.volts, 0, volts, 0, NODES);
            System.arraycopy(other.spare, 0, spare, 0, NODES);
            System.arraycopy(other.held, 0, held, 0, NODES);
            System.arraycopy(other.kept, 0, kept, 0, KEPT * NODES * SEEN);
        }

        void alone(int nodes) {
            for (int n = 0; n < nodes; n++) {
                island[n] = n;
                lit[n] = false;
            }
        }

        void join(int a, int b, int nodes) {
            int least = island[a] < island[b] ? island[a] : island[b];
            int other = island[a] < island[b] ? island[b] : island[a];
            for (int n = other; n < nodes && least != other; n++) {
                if (island[n] == other) {
                    island[n] = least;
                }
            }
        }

        void keep(int minute, int nodes) {
            for (int n = 0; n < nodes; n++) {
                if (lit[n]) {
                    held[n]++;
                } else {
                    held[n] = 0;
                    swing[n] = 0;
                    volts[n] = 0;
                    spare[n] = 0;
                }
                int at = keptAt(minute, n);
                kept[at + SEEN_LIT] = lit[n] ? 1 : 0;
                kept[at + SEEN_SWING] = swing[n];
                kept[at + SEEN_VOLTS] = volts[n];
                kept[at + SEEN_HELD] = held[n];
            }
        }

        int keptOf(int minute, int node, int what) {
            return kept[keptAt(minute, node) + what];
        }

        private static int keptAt(int minute, int node) {
            return (minute % KEPT * NODES + node) * SEEN;
        }
    }

    /** The plants of one land. */
    private static final class Plants {
        final int[] state = new int[PLANTS], out = new int[PLANTS];
        final int[] warmed = new int[PLANTS], fell = new int[PLANTS];

        void become(Plants other) {
            System.arraycopy(other.state, 0, state, 0, PLANTS);
            System.arraycopy(other.out, 0, out, 0, PLANTS);
            System.arraycopy(other.warmed, 0, warmed, 0, PLANTS);
            System.arraycopy(other.fell, 0, fell, 0, PLANTS);
        }

        void end(int p) {
            state[p] = OFF;
            out[p] = 0;
            warmed[p] = 0;
        }
    }

    /** The loads of one land. */
    private static final class Loads {
        private static final int COLD_FROM = 30, DARK_AT_FIRST = 60;
        final boolean[] on = new boolean[LOADS];
        final int[] litFor = new int[LOADS], served = new int[LOADS], dark = new int[LOADS];
        private final int[] darkFor = new int[LOADS];
        private final boolean[] cold = new boolean[LOADS];

        Loads() {
            for (int l = 0; l < LOADS; l++) {
                darkFor[l] = DARK_AT_FIRST;
            }
        }

        void become(Loads other) {
            System.arraycopy(other.on, 0, on, 0, LOADS);
            System.arraycopy(other.litFor, 0, litFor, 0, LOADS);
            System.arraycopy(other.served, 0, served, 0, LOADS);
            System.arraycopy(other.dark, 0, dark, 0, LOADS);
            System.arraycopy(other.darkFor, 0, darkFor, 0, LOADS);
            System.arraycopy(other.cold, 0, cold, 0, LOADS);
        }

        int draw(int l, int drawn) {
            return isCold(l) ? drawn * Math.max(100, 200 - 10 * litFor[l]) / 100 : drawn;
        }

        void serve(int l) {
            cold[l] = isCold(l);
            darkFor[l] = 0;
            litFor[l]++;
            served[l]++;
        }

        void miss(int l) {
            litFor[l] = 0;
            darkFor[l]++;
            dark[l]++;
        }

        /** Whether it came back cold, or, if it is not lit yet, whether it would. */
        private boolean isCold(int l) {
            return litFor[l] > 0 ? cold[l] : darkFor[l] >= COLD_FROM;
        }
    }

    /** A land as it stands: the one that is, or one that is played beside it. */
    private static final class Land {
        private static final int SWINGS_APART = 3, MOST_SWING = 20, MOST_VOLTS = 50;
        private final Facts facts;
        private final Rooms rooms;
        private final Texts texts;
        final Nodes nodes = new Nodes();
        final Plants plants = new Plants();
        final Loads loads = new Loads();
        final int[] crewAt = new int[CREWS], crewTo = new int[CREWS], crewLeft = new int[CREWS];
        final boolean[] closed = new boolean[LINES];
        final boolean[] done = new boolean[ORDERS];
        final int[] fallMinute = new int[FALLS], fallNode = new int[FALLS], fallWhy = new int[FALLS];
        int minute, falls;

        Land(Facts facts, Rooms rooms, Texts texts) {
            this.facts = facts;
            this.rooms = rooms;
            this.texts = texts;
        }

        void become(Land other) {
            nodes.become(other.nodes);
            plants.become(other.plants);
            loads.become(other.loads);
            System.arraycopy(other.crewAt, 0, crewAt, 0, CREWS);
            System.arraycopy(other.crewTo, 0, crewTo, 0, CREWS);
            System.arraycopy(other.crewLeft, 0, crewLeft, 0, CREWS);
            System.arraycopy(other.closed, 0, closed, 0, LINES);
            System.arraycopy(other.done, 0, done, 0, ORDERS);
            minute = other.minute;
            falls = other.falls;
        }

        int worth() {
            int worth = 0;
            for (int l = 0; l < facts.loads; l++) {
                worth += loads.served[l] * (facts.loadRank[l] + 1);
            }
            return worth;
        }

        int loadsLit() {
            int lit = 0;
            for (int l = 0; l < facts.loads; l++) {
                if (loads.litFor[l] > 0) {
                    lit++;
                }
            }
            return lit;
        }

        int send(int crew, int node) {
            int far = Math.abs(facts.nodeX[node] - facts.nodeX[crewAt[crew]]);
            crewTo[crew] = node;
            crewLeft[crew] = far;
            if (far == 0) {
                crewAt[crew] = node;
            }
            return far;
        }

        boolean can(int deed, int what) {
            switch (deed) {
                case CLOSE: return !closed[what] && manned(what) && mayMeet(facts.lineA[what], facts.lineB[what]);
                case OPEN: return closed[what] && manned(what);
                case START: return plants.state[what] == OFF && powered(what);
                case STOP: return plants.state[what] != OFF;
                case LIGHT: return !loads.on[what];
                case DIM: return loads.on[what];
                default: return false;
            }
        }

        boolean tried(int deed, int what) {
            if (!facts.has(deed, what) || !can(deed, what)) {
                return false;
            }
            switch (deed) {
                case CLOSE:
                    evenSwing(nodes.island[facts.lineA[what]], nodes.island[facts.lineB[what]]);
                    closed[what] = true;
                    mark();
                    break;
                case OPEN:
                    closed[what] = false;
                    mark();
                    break;
                case START:
                    plants.state[what] = WARMING;
                    plants.warmed[what] = 0;
                    break;
                case STOP:
                    plants.end(what);
                    plants.fell[what] = minute;
                    mark();
                    break;
                default:
                    loads.on[what] = deed == LIGHT;
                    break;
            }
            return true;
        }

        private boolean manned(int line) {
            if (!facts.lineManual[line]) {
                return true;
            }
            for (int c = 0; c < facts.crews; c++) {
                boolean atAnEnd = crewAt[c] == facts.lineA[line] || crewAt[c] == facts.lineB[line];
                if (atAnEnd && crewLeft[c] == 0) {
                    return true;
                }
            }
            return false;
        }

        private boolean mayMeet(int a, int b) {
            if (nodes.lit[a] && nodes.lit[b] && nodes.island[a] != nodes.island[b]) {
                return Math.abs(nodes.swing[a] - nodes.swing[b]) <= SWINGS_APART;
            }
            return nodes.lit[a] || nodes.lit[b];
        }

        private boolean powered(int plant) {
            return Kind.startsAlone(facts.plantKind[plant]) || nodes.lit[facts.plantNode[plant]];
        }

        private void evenSwing(int a, int b) {
            int weightA = weightOn(a);
            int weightB = weightOn(b);
            if (a == b || weightA + weightB == 0) {
                return;
            }
            int swing = (nodes.swing[a] * weightA + nodes.swing[b] * weightB) / (weightA + weightB);
            for (int n = 0; n < facts.nodes; n++) {
                if (nodes.island[n] == a || nodes.island[n] == b) {
                    nodes.swing[n] = swing;
                }
            }
        }

        private int weightOn(int island) {
            int weight = 0;
            for (int p = 0; p < facts.plants; p++) {
                if (isOnIn(p, island)) {
                    weight += facts.plantWeight[p];
                }
            }
            return weight;
        }

        private boolean isOnIn(int plant, int island) {
            return plants.state[plant] == ON && nodes.island[facts.plantNode[plant]] == island;
        }

        /** Islands, and which are lit, anew: by the lines that are closed and the plants that are on. */
        private void mark() {
            nodes.alone(facts.nodes);
            for (int l = 0; l < facts.lines; l++) {
                if (closed[l]) {
                    nodes.join(facts.lineA[l], facts.lineB[l], facts.nodes);
                }
            }
            for (int p = 0; p < facts.plants; p++) {
                if (plants.state[p] == ON) {
                    nodes.lit[nodes.island[facts.plantNode[p]]] = true;
                }
            }
            for (int n = 0; n < facts.nodes; n++) {
                nodes.lit[n] = nodes.lit[nodes.island[n]];
            }
        }

        /** Whether nothing fell in so many minutes; if it must stand, what comes behind a fall is not played. */
        boolean pass(int minutes, boolean mustStand) {
            int before = falls;
            for (int m = 0; m < minutes; m++) {
                moveCrews();
                obey();
                warm();
                followAll();
                serve();
                nodes.keep(minute, facts.nodes);
                minute++;
                if (mustStand && falls > before) {
                    return false;
                }
            }
            return falls == before;
        }

        private void moveCrews() {
            for (int c = 0; c < facts.crews; c++) {
                if (crewLeft[c] > 0) {
                    crewLeft[c]--;
                    if (crewLeft[c] == 0) {
                        crewAt[c] = crewTo[c];
                    }
                }
            }
        }

        private void obey() {
            for (int k = 0; k < rooms.orders; k++) {
                if (!done[k] && comesTo(rooms.orderRoom[k], rooms.orderText[k]) != 0) {
                    done[k] = tried(rooms.orderDeed[k], rooms.orderWhat[k]);
                }
            }
        }

        int comesTo(int room, int text) {
            int seen = minute - 1 - rooms.roomDelay[room];
            int[] names = texts.names;
            for (int what = 0; what < SEEN; what++) {
                int at = Texts.FIRST_SEEN + what;
                names[at] = 0;
                if (seen >= 0) {
                    names[at] = rooms.told(room, seen, what, nodes.keptOf(seen, rooms.roomNode[room], what));
                }
            }
            names[Texts.MINUTE_NAME] = minute;
            names[Texts.FALLS_NAME] = falls;
            return texts.comesTo(text);
        }

        private void warm() {
            boolean changed = false;
            for (int p = 0; p < facts.plants; p++) {
                if (plants.state[p] == WARMING && warmOne(p)) {
                    changed = true;
                }
            }
            if (changed) {
                mark();
            }
        }

        /** Whether it came on by that. */
        private boolean warmOne(int p) {
            if (!powered(p)) {
                plants.end(p);
                return false;
            }
            plants.warmed[p]++;
            if (plants.warmed[p] < Kind.warms(facts.plantKind[p], minute - plants.fell[p])) {
                return false;
            }
            plants.state[p] = ON;
            plants.out[p] = 0;
            return true;
        }

        private void followAll() {
            int before = falls;
            for (int n = 0; n < facts.nodes; n++) {
                if (nodes.lit[n] && nodes.island[n] == n) {
                    follow(n);
                }
            }
            if (falls > before) {
                mark();
            }
        }

        private void serve() {
            for (int l = 0; l < facts.loads; l++) {
                if (loads.on[l] && nodes.lit[facts.loadNode[l]]) {
                    loads.serve(l);
                } else {
                    loads.miss(l);
                }
            }
        }

        private void follow(int island) {
            int demand = demand(island);
            int weight = weightOn(island);
            if (weight == 0) {
                return;
            }
            int out = rampAll(island, demand);
            int swing = nodes.swing[island] + (out - demand) * 10 / weight;
            swing -= swing / 4;
            int volts = chargeOf(island) - demand / 10;
            int spare = 0;
            for (int p = 0; p < facts.plants; p++) {
                if (isOnIn(p, island)) {
                    volts -= Kind.soak(facts.plantKind[p]);
                    spare += facts.plantMost[p] - plants.out[p];
                }
            }
            for (int n = island; n < facts.nodes; n++) {
                if (nodes.island[n] == island) {
                    nodes.swing[n] = swing;
                    nodes.volts[n] = volts;
                    nodes.spare[n] = spare;
                }
            }
            int why = whyFalls(swing, volts);
            if (why > 0) {
                tumble(island, why);
            }
        }

        private int demand(int island) {
            int demand = 0;
            for (int l = 0; l < facts.loads; l++) {
                if (loads.on[l] && nodes.island[facts.loadNode[l]] == island) {
                    demand += loads.draw(l, facts.loadDraw[l]);
                }
            }
            for (int p = 0; p < facts.plants; p++) {
                if (plants.state[p] == WARMING && nodes.island[facts.plantNode[p]] == island) {
                    demand += Kind.need(facts.plantKind[p], facts.plantMost[p]);
                }
            }
            return demand;
        }

        /** All that is put out there, as each plant has followed what the ones ahead of it left. */
        private int rampAll(int island, int demand) {
            int all = 0;
            for (int p = 0; p < facts.plants; p++) {
                if (isOnIn(p, island)) {
                    all += plants.out[p];
                }
            }
            for (int p = 0; p < facts.plants; p++) {
                if (isOnIn(p, island)) {
                    int was = plants.out[p];
                    int ramp = Kind.ramp(facts.plantKind[p]);
                    int step = Math.max(-ramp, Math.min(ramp, demand - all));
                    plants.out[p] = Math.max(0, Math.min(facts.plantMost[p], was + step));
                    all += plants.out[p] - was;
                }
            }
            return all;
        }

        private int chargeOf(int island) {
            int charge = 0;
            for (int l = 0; l < facts.lines; l++) {
                if (closed[l] && nodes.island[facts.lineA[l]] == island) {
                    charge += facts.lineCharge[l];
                }
            }
            return charge;
        }

        private static int whyFalls(int swing, int volts) {
            if (swing < -MOST_SWING) {
                return 1;
            }
            if (swing > MOST_SWING) {
                return 2;
            }
            return volts > MOST_VOLTS ? 3 : 0;
        }

        private void tumble(int island, int why) {
            if (falls < FALLS) {
                fallMinute[falls] = minute;
                fallNode[falls] = island;
                fallWhy[falls] = why;
            }
            falls++;
            for (int p = 0; p < facts.plants; p++) {
                if (plants.state[p] != OFF && nodes.island[facts.plantNode[p]] == island) {
                    plants.end(p);
                    plants.fell[p] = minute;
                }
            }
            for (int l = 0; l < facts.lines; l++) {
                if (nodes.island[facts.lineA[l]] == island) {
                    closed[l] = false;
                }
            }
        }
    }

    /**
     * Reads a text: first its tokens, then what they mean, written so that a stack can work it out.
     * A token, and so a step of that, is one number: from 0 on a NUMBER's, from LAST_NAME on a NAME's.
     */
    private static final class Reader {
        private static final String WORDS = "minute lit swing volts held falls when or and not ";
        static final int LAST_NAME = -6, WHEN = -7, OR = -8, AND = -9, NOT = -10;
        private static final String SIGNS = "();+-*<=";
        static final int FIRST_SIGN = -11, BRACKET = -11, UNBRACKET = -12, STOPS = -13;
        static final int PLUS = -14, MINUS = -15, TIMES = -16, LESS = -17, SAME = -18;
        static final int END = -19, BROKEN = -20, NEGATE = -21;
        private static final int OR_LEVEL = 0, AND_LEVEL = 1, NOT_LEVEL = 2, SUM_LEVEL = 3, TERM_LEVEL = 4;
        private static final int ONE_LEVEL = 5, MOST_OPEN = 5, MOST_DIGITS = 4;
        private final int[] token = new int[TAPE + 1], place = new int[TAPE + 1];
        private int tokens, at;
        private boolean wrong;
        final int[] code = new int[TAPE];
        int size;

        /** The place of the fault, or -1. */
        int read(int[] tape, int fed) {
            split(tape, fed);
            at = 0;
            size = 0;
            wrong = false;
            need(WHEN);
            part(OR_LEVEL, 0);
            need(STOPS);
            if (!wrong && token[at] == END) {
                return -1;
            }
            return place[at];
        }

        private void split(int[] tape, int fed) {
            tokens = 0;
            int end = 0;
            for (int i = 0; i < fed; i++) {
                if (i >= end && !isBlank(tape[i])) {
                    end = endOf(tape, fed, i);
                    token[tokens] = tokenOf(tape, i, end);
                    place[tokens] = i;
                    tokens++;
                }
            }
            token[tokens] = END;
            place[tokens] = fed;
        }

        private static boolean isBlank(int c) {
            return c == 32 || c == 10;
        }

        private static boolean isLetter(int c) {
            return within(c, 'a', 'z');
        }

        private static boolean isDigit(int c) {
            return within(c, '0', '9');
        }

        private static int endOf(int[] tape, int fed, int from) {
            boolean word = isLetter(tape[from]);
            boolean number = isDigit(tape[from]);
            int end = from + 1;
            while (end < fed && (word && isLetter(tape[end]) || number && isDigit(tape[end]))) {
                end++;
            }
            return end;
        }

        private static int tokenOf(int[] tape, int from, int end) {
            if (isLetter(tape[from])) {
                return wordOf(tape, from, end);
            }
            if (isDigit(tape[from])) {
                return numberOf(tape, from, end);
            }
            int sign = tape[from] < 128 ? SIGNS.indexOf((char) tape[from]) : -1;
            return sign < 0 ? BROKEN : FIRST_SIGN - sign;
        }

        private static int numberOf(int[] tape, int from, int end) {
            if (end - from > MOST_DIGITS) {
                return BROKEN;
            }
            int number = 0;
            for (int i = from; i < end; i++) {
                number = 10 * number + tape[i] - '0';
            }
            return number;
        }

        private static int wordOf(int[] tape, int from, int end) {
            int word = -1;
            int start = 0;
            for (int i = 0; i < WORDS.length(); i++) {
                if (WORDS.charAt(i) == ' ') {
                    if (i - start == end - from && stands(tape, from, start, i)) {
                        return word;
                    }
                    word--;
                    start = i + 1;
                }
            }
            return BROKEN;
        }

        private static boolean stands(int[] tape, int from, int start, int end) {
            for (int i = start; i < end; i++) {
                if (tape[from + i - start] != WORDS.charAt(i)) {
                    return false;
                }
            }
            return true;
        }

        private void need(int sign) {
            if (!wrong && token[at] == sign) {
                at++;
            } else {
                wrong = true;
            }
        }

        private void put(int sign) {
            if (!wrong && size < TAPE) {
                code[size++] = sign;
            }
        }

        private void part(int level, int open) {
            if (level == NOT_LEVEL) {
                compared(open);
                return;
            }
            if (level >= ONE_LEVEL) {
                one(open);
                return;
            }
            part(level + 1, open);
            while (!wrong && at < tokens && joins(level, token[at])) {
                int sign = token[at];
                at++;
                part(level + 1, open);
                put(sign);
            }
        }

        private static boolean joins(int level, int sign) {
            switch (level) {
                case OR_LEVEL: return sign == OR;
                case AND_LEVEL: return sign == AND;
                case SUM_LEVEL: return sign == PLUS || sign == MINUS;
                case TERM_LEVEL: return sign == TIMES;
                default: return false;
            }
        }

        private void compared(int open) {
            if (!wrong && token[at] == NOT) {
                if (opens(open)) {
                    compared(open + 1);
                    put(NOT);
                }
                return;
            }
            part(SUM_LEVEL, open);
            if (!wrong && (token[at] == LESS || token[at] == SAME)) {
                int sign = token[at];
                at++;
                part(SUM_LEVEL, open);
                put(sign);
            }
        }

        private void one(int open) {
            if (wrong) {
                return;
            }
            int sign = token[at];
            if (sign >= LAST_NAME) {
                put(sign);
                at++;
            } else if (sign == MINUS) {
                if (opens(open)) {
                    one(open + 1);
                    put(NEGATE);
                }
            } else if (sign == BRACKET) {
                if (opens(open)) {
                    part(OR_LEVEL, open + 1);
                    need(UNBRACKET);
                }
            } else {
                wrong = true;
            }
        }

        private boolean opens(int open) {
            if (open >= MOST_OPEN) {
                wrong = true;
                return false;
            }
            at++;
            return true;
        }
    }

    /** The tape, and the texts that were read from it. */
    private static final class Texts {
        static final int NAMES = 6, MINUTE_NAME = 0, FIRST_SEEN = 1, FALLS_NAME = 5;
        private static final int STACK = 64;
        final int[] tape = new int[TAPE];
        int fed, texts;
        final int[] names = new int[NAMES];
        private final int[][] code = new int[TEXTS][TAPE];
        private final int[] size = new int[TEXTS];
        private final int[] stack = new int[STACK];
        private final Reader reader = new Reader();

        /** The place of the tape's fault, or -1: then it is the newest text. */
        int takeTape() {
            if (texts >= TEXTS) {
                return 0;
            }
            int fault = reader.read(tape, fed);
            fed = 0;
            if (fault < 0) {
                System.arraycopy(reader.code, 0, code[texts], 0, reader.size);
                size[texts] = reader.size;
                texts++;
            }
            return fault;
        }

        /** What the text's when comes to, by the names as they are filled in. */
        int comesTo(int text) {
            int top = 0;
            for (int i = 0; i < size[text]; i++) {
                int sign = code[text][i];
                if (sign >= Reader.LAST_NAME) {
                    if (top >= STACK) {
                        return 0;
                    }
                    stack[top++] = sign >= 0 ? sign : names[-1 - sign];
                } else if (sign == Reader.NOT || sign == Reader.NEGATE) {
                    if (top < 1) {
                        return 0;
                    }
                    stack[top - 1] = sign == Reader.NEGATE ? -stack[top - 1] : truth(stack[top - 1] == 0);
                } else {
                    if (top < 2) {
                        return 0;
                    }
                    top--;
                    stack[top - 1] = joined(sign, stack[top - 1], stack[top]);
                }
            }
            return top == 1 ? stack[0] : 0;
        }

        private static int joined(int sign, int a, int b) {
            switch (sign) {
                case Reader.OR: return truth(a != 0 || b != 0);
                case Reader.AND: return truth(a != 0 && b != 0);
                case Reader.LESS: return truth(a < b);
                case Reader.SAME: return truth(a == b);
                case Reader.PLUS: return a + b;
                case Reader.MINUS: return a - b;
                case Reader.TIMES: return a * b;
                default: return 0;
            }
        }

        private static int truth(boolean is) {
            return is ? 1 : 0;
        }
    }

    /** A row of numbers of the host's. */
    private static final class Sheet {
        static final int NO_SORT = -1, BYTES = 0, SHORTS = 1, INTS = 2;
        int sort = NO_SORT;
        int size;
        final int[] row = new int[CELLS];

        boolean isMissing() {
            return sort == NO_SORT;
        }

        void become(int newSort, int newSize) {
            sort = newSort;
            size = newSize;
            for (int i = 0; i < CELLS; i++) {
                row[i] = 0;
            }
        }

        /** Long, for sums of any two ints are asked of it. */
        boolean holds(long from, long n) {
            return from >= 0 && n >= 0 && from + n <= size;
        }

        void put(int i, int v) {
            switch (sort) {
                case BYTES: row[i] = (byte) v; break;
                case SHORTS: row[i] = (short) v; break;
                default: row[i] = v; break;
            }
        }

        boolean holdsChoices() {
            if (isMissing() || size < 2 || size > 2 * CHOICES || size % 2 != 0) {
                return false;
            }
            for (int i = 0; i < size; i += 2) {
                if (!isOf(row[i], DEEDS)) {
                    return false;
                }
            }
            return true;
        }
    }

    /** Looks for the best row of deeds, by playing them beside the land that is. */
    private static final class Planner {
        private final Land now;
        private final Land[] ahead = new Land[ROW];
        final Land then;
        private final int[] deeds = new int[CHOICES], whats = new int[CHOICES];
        private int choices, gap, minutes, worthNow;
        private final int[] row = new int[ROW];
        final int[] best = new int[ROW];
        int bestSize, bestGrowth;

        Planner(Facts facts, Land now, Rooms rooms, Texts texts) {
            this.now = now;
            then = new Land(facts, rooms, texts);
            for (int i = 0; i < ROW; i++) {
                ahead[i] = new Land(facts, rooms, texts);
            }
        }

        void begin(Sheet sheet, int newGap, int n) {
            choices = Math.min(CHOICES, sheet.size / 2);
            for (int c = 0; c < choices; c++) {
                deeds[c] = sheet.row[2 * c];
                whats[c] = sheet.row[2 * c + 1];
            }
            gap = newGap;
            minutes = n;
            worthNow = now.worth();
            bestSize = 0;
            bestGrowth = -1;
        }

        /** Plays what a row begins with once for all the rows that begin so; rows come by their numbers. */
        private void extend(int depth) {
            if (depth >= ROW) {
                return;
            }
            Land land = ahead[depth];
            int left = minutes - depth * gap;
            int first = Math.min(gap, left);
            for (int c = 0; c < choices; c++) {
                if (isInRow(c, depth)) {
                    continue;
                }
                land.become(depth == 0 ? now : ahead[depth - 1]);
                if (!land.tried(deeds[c], whats[c]) || !land.pass(first, true)) {
                    continue;
                }
                row[depth] = c;
                then.become(land);
                if (then.pass(left - first, true)) {
                    compare(depth + 1, then.worth() - worthNow);
                }
                extend(depth + 1);
            }
        }

        private boolean isInRow(int choice, int size) {
            for (int i = 0; i < size; i++) {
                if (row[i] == choice) {
                    return true;
                }
            }
            return false;
        }

        private void compare(int size, int growth) {
            if (growth > bestGrowth || growth == bestGrowth && size < bestSize) {
                bestGrowth = growth;
                bestSize = size;
                System.arraycopy(row, 0, best, 0, size);
            }
        }
    }
}
