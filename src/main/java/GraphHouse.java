import java.util.Arrays;

/** A house for graphs that change: see README.md for its use and the document for its promises. */
public final class GraphHouse {
    public static final int NONE = -1;
    public static final int MANY = -2;
    public static final int FULL = -3;
    public static final int WRONG = -4;
    public static final long NO = 9000000000000000L;
    public static final long FALLING = 9000000000000001L;

    private static final int NODES = 32;
    private static final int PLACES = 160;
    private static final int CHANGES = 4000;
    private static final int TEXT = 1000;
    private static final int LETTERS = 26;
    private static final int MILLION = 1000000;
    private static final long PRIME = 1000000007L;
    private static final long FAR = 9223372036854775807L;

    private final Ledger ledger;
    private final Graph shown;
    private int viewed;
    private final Script script;
    private final Ways ways;
    private final Parts parts;
    private final Colours colours;
    private final Flows flows;
    private final Trees woods;
    private final Groups groups;
    private final Question question;
    private final Engine engine;

    public GraphHouse() {
        ledger = new Ledger();
        shown = new Graph();
        viewed = NONE;
        script = new Script();
        ways = new Ways();
        parts = new Parts();
        colours = new Colours();
        flows = new Flows();
        woods = new Trees();
        groups = new Groups();
        question = new Question();
        engine = new Engine();
    }

    // ---- changes

    public int node(int label) throws IllegalArgumentException, IllegalStateException {
        allow(isLetter(label));
        ready(ledger.newest.nodes < NODES && !ledger.isFull());
        return ledger.addNode(label);
    }

    public int arc(int from, int to, int weight, int room, int kind) throws IllegalArgumentException, IllegalStateException {
        allow(ledger.isGoodArc(from, to, weight, room, kind));
        ready(!ledger.isFull());
        return ledger.addArc(from, to, weight, room, kind);
    }

    public int take(int arc) throws IllegalArgumentException, IllegalStateException {
        allow(ledger.newest.hasArc(arc));
        ready(!ledger.isFull());
        ledger.dropArc(arc);
        return ledger.newest.version;
    }

    public int set(int arc, int what, int v) throws IllegalArgumentException, IllegalStateException {
        allow(ledger.newest.hasArc(arc) && isGoodValue(what, v));
        ready(!ledger.isFull());
        int before = ledger.newest.valueOf(arc, what);
        ledger.changeArc(arc, what, v);
        return before;
    }

    public int label(int node, int v) throws IllegalArgumentException, IllegalStateException {
        allow(ledger.newest.hasNode(node) && isLetter(v));
        ready(!ledger.isFull());
        int before = ledger.newest.labels[node];
        ledger.relabel(node, v);
        return before;
    }

    public int view(int version) throws IllegalArgumentException {
        allow(version >= NONE && version <= ledger.newest.version);
        viewed = version;
        if (version != NONE) {
            ledger.replay(shown, version);
        }
        return graph().version;
    }

    public int version() {
        return ledger.newest.version;
    }

    public int size(int what) throws IllegalArgumentException {
        allow(what >= 0 && what <= 3);
        Graph g = graph();
        switch (what) {
            case 0:
                return g.nodes;
            case 1:
                return g.arcs;
            case 2:
                return g.joints();
            default:
                return g.top - 1;
        }
    }

    public long told(int place, int what) throws IllegalArgumentException {
        allow(place >= 0 && place < PLACES && what >= 0 && what <= 4);
        Graph g = graph();
        if (!g.hasArc(place)) {
            return NO;
        }
        if (what == 0) {
            return g.from[place];
        }
        return what == 1 ? g.to[place] : g.valueOf(place, what - 2);
    }

    public int labelOf(int node) throws IllegalArgumentException {
        Graph g = graph();
        allow(g.hasNode(node));
        return g.labels[node];
    }

    public int arcAt(int node, int way, int k) throws IllegalArgumentException {
        Graph g = graph();
        allow(g.hasNode(node) && way >= 0 && way <= 1 && k >= 0);
        g.tie();
        if (way == 0) {
            return k < g.outCount(node) ? g.outs[g.outAt[node] + k] : NONE;
        }
        return k < g.inCount(node) ? g.ins[g.inAt[node] + k] : NONE;
    }

    // ---- texts

    public int type(int c) throws IllegalArgumentException, IllegalStateException {
        allow(c >= 32 && c <= 126);
        ready(script.length < TEXT);
        script.text[script.length] = (char) c;
        script.length++;
        return script.length;
    }

    public int wipe() {
        int before = script.length;
        script.length = 0;
        return before;
    }

    public int load() {
        return ledger.carryOut(script);
    }

    public int fault(int what) throws IllegalArgumentException {
        allow(what >= 0 && what <= 1);
        return what == 0 ? script.blame : script.blameAt;
    }

    public int print() {
        return script.write(graph());
    }

    public int printed(int i) throws IllegalArgumentException {
        allow(i >= 0 && i < script.pageLength);
        return script.page[i];
    }

    // ---- walks

    public long distance(int s, int t) throws IllegalArgumentException {
        Graph g = graph();
        allow(g.hasNode(s) && g.hasNode(t));
        return ways.leastWeight(g, s, t);
    }

    public int way(int s, int t, int k) throws IllegalArgumentException {
        Graph g = graph();
        allow(g.hasNode(s) && g.hasNode(t) && k >= 0);
        return ways.leastArc(g, s, t, k);
    }

    public int width(int s, int t) throws IllegalArgumentException {
        Graph g = graph();
        allow(g.hasNode(s) && g.hasNode(t));
        return ways.widest(g, s, t);
    }

    public int shorts(int s, int t) throws IllegalArgumentException {
        Graph g = graph();
        allow(g.hasTwo(s, t));
        return ways.countShort(g, s, t);
    }

    public int shortArc(int s, int t, int k, int i) throws IllegalArgumentException {
        Graph g = graph();
        allow(g.hasTwo(s, t) && k >= 0 && i >= 0);
        return ways.arcOfShort(g, s, t, k, i);
    }

    // ---- parts

    public int part(int sort, int node) throws IllegalArgumentException {
        Graph g = graph();
        allow(sort >= 0 && sort <= 1 && g.hasNode(node));
        return sort == 0 ? parts.strongPart(g, node) : parts.weakPart(g, node);
    }

    public boolean bridge(int arc) throws IllegalArgumentException {
        Graph g = graph();
        allow(g.hasArc(arc));
        return parts.isBridge(g, arc);
    }

    public boolean cut(int node) throws IllegalArgumentException {
        Graph g = graph();
        allow(g.hasNode(node));
        return parts.isCut(g, node);
    }

    public int order(int k) throws IllegalArgumentException {
        allow(k >= 0);
        return parts.ordered(graph(), k);
    }

    public int core(int node) throws IllegalArgumentException {
        Graph g = graph();
        allow(g.hasNode(node));
        return parts.coreOf(g, node);
    }

    public int clique(int k) throws IllegalArgumentException {
        allow(k >= 0);
        int rest = colours.greatestClique(graph());
        if (k >= Integer.bitCount(rest)) {
            return NONE;
        }
        for (int i = 0; i < k; i++) {
            rest &= rest - 1;
        }
        return lowest(rest);
    }

    public int colour(int node) throws IllegalArgumentException {
        Graph g = graph();
        allow(g.hasNode(node));
        return colours.colourOf(g, node);
    }

    // ---- flows

    public long flow(int s, int t) throws IllegalArgumentException {
        Graph g = graph();
        allow(g.hasTwo(s, t));
        return flows.greatest(g, s, t);
    }

    public boolean side(int s, int t, int node) throws IllegalArgumentException {
        Graph g = graph();
        allow(g.hasTwo(s, t) && g.hasNode(node));
        flows.greatest(g, s, t);
        return (flows.sideMask >> node & 1) != 0;
    }

    public long cost(int s, int t, int value) throws IllegalArgumentException {
        Graph g = graph();
        allow(g.hasTwo(s, t) && value >= 0 && value <= 200 * MILLION);
        return flows.cheapest(g, s, t, value);
    }

    public long pairing(int what) throws IllegalArgumentException {
        allow(what >= 0 && what <= 1);
        flows.pair(graph());
        return what == 0 ? flows.pairs : flows.pairSum;
    }

    public long tree(int root) throws IllegalArgumentException {
        Graph g = graph();
        allow(g.hasNode(root));
        return woods.leastRooted(g, root);
    }

    public boolean span(int arc) throws IllegalArgumentException {
        Graph g = graph();
        allow(g.hasArc(arc));
        return woods.isSpanning(g, arc);
    }

    public int trees() {
        return woods.countSpanning(graph());
    }

    // ---- ranks, groups, figures

    public long rank(int node, int rounds) throws IllegalArgumentException {
        Graph g = graph();
        allow(g.hasNode(node) && rounds >= 0 && rounds <= 40);
        return groups.unitsOf(g, node, rounds);
    }

    public int shortest(int s, int t, int what, int v) throws IllegalArgumentException {
        Graph g = graph();
        allow(g.hasNode(s) && g.hasNode(t) && what >= 0 && what <= 2 && g.hasNode(v));
        if (what == 0) {
            return ways.fewestArcs(g, s, t);
        }
        return what == 1 ? ways.countBy(g, s, t, s) : ways.countBy(g, s, t, v);
    }

    public int group(int node) throws IllegalArgumentException {
        Graph g = graph();
        allow(g.hasNode(node));
        return groups.groupOf(g, node);
    }

    public long gain() {
        return groups.totalGain(graph());
    }

    public long figures(int what) throws IllegalArgumentException {
        allow(what >= 0 && what <= 1);
        return what == 0 ? parts.triangles(graph()) : parts.squares(graph());
    }

    // ---- patterns, programs

    public int pattern() {
        return question.adopt(script) ? 0 : WRONG;
    }

    public int fits(int s, int t) throws IllegalArgumentException {
        Graph g = graph();
        allow(g.hasNode(s) && g.hasNode(t));
        return question.leastFit(g, s, t);
    }

    public int program() {
        return engine.adopt(script) ? 0 : WRONG;
    }

    public int run(int rounds, int k, int loss, long seed) throws IllegalArgumentException {
        allow(rounds >= 0 && rounds <= 200 && k >= 1 && k <= 4 && loss >= 0 && loss <= 90);
        Graph g = graph();
        int done = engine.work(g, rounds);
        engine.post(g, done, k, loss, seed);
        return done;
    }

    public long state(int node) throws IllegalArgumentException {
        allow(node >= 0 && node < engine.nodes);
        return engine.states[node];
    }

    public int letters(int what) throws IllegalArgumentException {
        allow(what >= 0 && what <= 2);
        if (what == 0) {
            return engine.sent;
        }
        return what == 1 ? engine.lost : engine.turns;
    }

    // ---- helpers

    private Graph graph() {
        return viewed == NONE ? ledger.newest : shown;
    }

    private static void allow(boolean good) {
        if (!good) {
            throw new IllegalArgumentException();
        }
    }

    private static void ready(boolean good) {
        if (!good) {
            throw new IllegalStateException();
        }
    }

    private static boolean isLetter(int v) {
        return v >= 0 && v < LETTERS;
    }

    private static boolean isWeight(int v) {
        return v >= -MILLION && v <= MILLION;
    }

    private static boolean isRoom(int v) {
        return v >= 0 && v <= MILLION;
    }

    private static boolean isGoodValue(int what, int v) {
        if (what == 0) {
            return isWeight(v);
        }
        if (what == 1) {
            return isRoom(v);
        }
        return what == 2 && isLetter(v);
    }

    /** The number of the lowest bit; 32 for an empty mask. */
    private static int lowest(int mask) {
        return Integer.bitCount((mask & -mask) - 1);
    }

    private static int lowestOfLong(long mask) {
        return Long.bitCount((mask & -mask) - 1L);
    }

    /** The nodes of allowed (and seed) to which the rows of masks lead from seed on. */
    private static int flood(int[] rows, int seed, int allowed) {
        int seen = seed;
        int todo = seed;
        for (int i = 0; i < NODES && todo != 0; i++) {
            int add = rows[lowest(todo)] & allowed & ~seen;
            todo &= todo - 1;
            todo |= add;
            seen |= add;
        }
        return seen;
    }

    // ---- the graph of one version

    private static final class Graph {
        int version;
        int nodes;
        int arcs;
        /** One above the greatest place in use. */
        int top;
        /** The version for which the rows below kind were made. */
        private int tied;
        final int[] labels = new int[NODES];
        final int[] from = new int[PLACES];
        final int[] to = new int[PLACES];
        final int[] weight = new int[PLACES];
        final int[] room = new int[PLACES];
        final int[] kind = new int[PLACES];
        final int[] near = new int[NODES];
        final int[] out = new int[NODES];
        final int[] in = new int[NODES];
        final int[] outAt = new int[NODES + 1];
        final int[] outs = new int[PLACES];
        final int[] inAt = new int[NODES + 1];
        final int[] ins = new int[PLACES];

        Graph() {
            tied = NONE;
            Arrays.fill(from, NONE);
        }

        void clear() {
            version = 0;
            nodes = 0;
            arcs = 0;
            top = 0;
            tied = NONE;
            Arrays.fill(from, NONE);
        }

        void copyOf(Graph other) {
            version = other.version;
            nodes = other.nodes;
            arcs = other.arcs;
            top = other.top;
            tied = NONE;
            System.arraycopy(other.labels, 0, labels, 0, NODES);
            System.arraycopy(other.from, 0, from, 0, PLACES);
            System.arraycopy(other.to, 0, to, 0, PLACES);
            System.arraycopy(other.weight, 0, weight, 0, PLACES);
            System.arraycopy(other.room, 0, room, 0, PLACES);
            System.arraycopy(other.kind, 0, kind, 0, PLACES);
        }

        boolean hasNode(int v) {
            return v >= 0 && v < nodes;
        }

        boolean hasTwo(int s, int t) {
            return hasNode(s) && hasNode(t) && s != t;
        }

        boolean hasArc(int p) {
            return p >= 0 && p < top && from[p] != NONE;
        }

        boolean isJoint(int p) {
            return from[p] != NONE && from[p] != to[p];
        }

        int joints() {
            int count = 0;
            for (int p = 0; p < top; p++) {
                if (isJoint(p)) {
                    count++;
                }
            }
            return count;
        }

        /** Puts into a row how many joints each node has. */
        void countJoints(int[] degrees) {
            Arrays.fill(degrees, 0);
            for (int p = 0; p < top; p++) {
                if (isJoint(p)) {
                    degrees[from[p]]++;
                    degrees[to[p]]++;
                }
            }
        }

        int valueOf(int p, int what) {
            if (what == 0) {
                return weight[p];
            }
            return what == 1 ? room[p] : kind[p];
        }

        int freePlace() {
            for (int p = 0; p < PLACES; p++) {
                if (from[p] == NONE) {
                    return p;
                }
            }
            return NONE;
        }

        int allNodes() {
            // a shift by 32 would be one by 0
            return nodes >= NODES ? -1 : (1 << nodes) - 1;
        }

        int outCount(int v) {
            return outAt[v + 1] - outAt[v];
        }

        int inCount(int v) {
            return inAt[v + 1] - inAt[v];
        }

        void dropAt(int p) {
            from[p] = NONE;
            arcs--;
            while (top > 0 && from[top - 1] == NONE) {
                top--;
            }
        }

        /** Makes the rows that are drawn from the arcs, once for each version that is asked. */
        void tie() {
            if (tied == version) {
                return;
            }
            tied = version;
            Arrays.fill(near, 0);
            Arrays.fill(out, 0);
            Arrays.fill(in, 0);
            Arrays.fill(outAt, 0);
            Arrays.fill(inAt, 0);
            for (int p = 0; p < top; p++) {
                if (from[p] != NONE) {
                    tieEnds(from[p], to[p]);
                }
            }
            for (int v = 1; v <= NODES; v++) {
                outAt[v] += outAt[v - 1];
                inAt[v] += inAt[v - 1];
            }
            // from the last place on, so that each node's row ends up rising
            for (int p = top - 1; p >= 0; p--) {
                if (from[p] != NONE) {
                    outAt[from[p]]--;
                    outs[outAt[from[p]]] = p;
                    inAt[to[p]]--;
                    ins[inAt[to[p]]] = p;
                }
            }
        }

        private void tieEnds(int u, int v) {
            outAt[u]++;
            inAt[v]++;
            out[u] |= 1 << v;
            in[v] |= 1 << u;
            if (u != v) {
                near[u] |= 1 << v;
                near[v] |= 1 << u;
            }
        }
    }

    // ---- the changes, and texts that make them

    private static final class Ledger {
        private static final int ROW = 7;
        private static final int ADD_NODE = 0;
        private static final int ADD_ARC = 1;
        private static final int DROP_ARC = 2;
        private static final int CHANGE_ARC = 3;
        private static final int RELABEL = 4;
        private static final int LETTER_N = 13;
        private static final int LETTER_A = 0;
        private static final int LETTER_T = 19;
        private static final int LETTER_W = 22;

        final Graph newest = new Graph();
        private final Graph saved = new Graph();
        private int[] log = new int[64 * ROW];
        private final int[] given = new int[5];

        boolean isFull() {
            return newest.version >= CHANGES;
        }

        boolean isGoodArc(int from, int to, int weight, int room, int kind) {
            return newest.hasNode(from) && newest.hasNode(to) && isWeight(weight) && isRoom(room) && isLetter(kind);
        }

        int addNode(int label) {
            note(ADD_NODE, newest.nodes, label, 0);
            return newest.nodes - 1;
        }

        int addArc(int from, int to, int weight, int room, int kind) {
            int place = newest.freePlace();
            if (place == NONE) {
                return FULL;
            }
            int at = openRow();
            log[at] = ADD_ARC;
            log[at + 1] = place;
            log[at + 2] = from;
            log[at + 3] = to;
            log[at + 4] = weight;
            log[at + 5] = room;
            log[at + 6] = kind;
            apply(newest);
            return place;
        }

        void dropArc(int place) {
            note(DROP_ARC, place, 0, 0);
        }

        void changeArc(int place, int what, int v) {
            note(CHANGE_ARC, place, what, v);
        }

        void relabel(int node, int v) {
            note(RELABEL, node, v, 0);
        }

        private void note(int deed, int at, int a, int b) {
            int row = openRow();
            log[row] = deed;
            log[row + 1] = at;
            log[row + 2] = a;
            log[row + 3] = b;
            apply(newest);
        }

        private int openRow() {
            int at = newest.version * ROW;
            if (at + ROW > log.length) {
                log = Arrays.copyOf(log, Math.max(at + ROW, Math.min(2 * log.length, CHANGES * ROW)));
            }
            return at;
        }

        /** Makes of g, which is of some version, the next one. */
        private void apply(Graph g) {
            int at = g.version * ROW;
            int place = log[at + 1];
            g.version++;
            switch (log[at]) {
                case ADD_NODE:
                    g.labels[place] = log[at + 2];
                    g.nodes++;
                    break;
                case ADD_ARC:
                    applyArc(g, at, place);
                    break;
                case DROP_ARC:
                    g.dropAt(place);
                    break;
                case CHANGE_ARC:
                    applyValue(g, place, log[at + 2], log[at + 3]);
                    break;
                default:
                    g.labels[place] = log[at + 2];
                    break;
            }
        }

        private void applyArc(Graph g, int at, int place) {
            g.from[place] = log[at + 2];
            g.to[place] = log[at + 3];
            g.weight[place] = log[at + 4];
            g.room[place] = log[at + 5];
            g.kind[place] = log[at + 6];
            g.arcs++;
            g.top = Math.max(g.top, place + 1);
        }

        private void applyValue(Graph g, int place, int what, int v) {
            if (what == 0) {
                g.weight[place] = v;
            } else if (what == 1) {
                g.room[place] = v;
            } else {
                g.kind[place] = v;
            }
        }

        void replay(Graph g, int version) {
            if (version < g.version) {
                g.clear();
            }
            for (int i = g.version; i < version; i++) {
                apply(g);
            }
        }

        /** All commands of the text, or none: how many, or WRONG. */
        int carryOut(Script r) {
            saved.copyOf(newest);
            r.begin();
            for (int done = 0; done <= TEXT; done++) {
                r.next(7, true);
                if (r.sort == Script.END) {
                    return done;
                }
                if (!readCommand(r)) {
                    newest.copyOf(saved);
                    return WRONG;
                }
            }
            return WRONG;
        }

        private boolean readCommand(Script r) {
            int begin = r.place;
            int letter = r.sort == Script.LETTER ? r.value : NONE;
            String shape = shapeOf(letter);
            if (shape.isEmpty()) {
                return r.refuse(2, 3);
            }
            for (int i = 0; i < shape.length() && i < given.length; i++) {
                r.next(7, true);
                int want = shape.charAt(i) == 'l' ? Script.LETTER : Script.NUMBER;
                if (r.sort != want) {
                    return r.refuse(2, 3);
                }
                given[i] = r.value;
            }
            r.next(7, true);
            if (!r.isAt(';')) {
                return r.refuse(2, 3);
            }
            return doCommand(letter) || r.accuse(4, begin);
        }

        private static String shapeOf(int letter) {
            switch (letter) {
                case LETTER_N:
                    return "l";
                case LETTER_A:
                    return "ddddl";
                case LETTER_T:
                    return "d";
                case LETTER_W:
                    return "dd";
                default:
                    return "";
            }
        }

        private boolean doCommand(int letter) {
            if (isFull()) {
                return false;
            }
            if (letter == LETTER_N) {
                return newest.nodes < NODES && addNode(given[0]) >= 0;
            }
            if (letter == LETTER_A) {
                return isGoodArc(given[0], given[1], given[2], given[3], given[4])
                    && addArc(given[0], given[1], given[2], given[3], given[4]) != FULL;
            }
            if (!newest.hasArc(given[0])) {
                return false;
            }
            if (letter == LETTER_T) {
                dropArc(given[0]);
                return true;
            }
            if (!isWeight(given[1])) {
                return false;
            }
            changeArc(given[0], 0, given[1]);
            return true;
        }
    }

    // ---- THE TEXT, its tokens and what is wrong with it; THE PRINT

    private static final class Script {
        static final int END = 0;
        static final int LETTER = 1;
        static final int NUMBER = 2;
        static final int SIGN = 3;
        static final int STRAY = 4;
        static final int LONG = 5;
        private static final int NODE_WIDTH = 4;
        private static final int ARC_WIDTH = 28;

        final char[] text = new char[TEXT];
        int length;
        private int at;
        int sort;
        int place;
        int value;
        int blame = NONE;
        int blameAt = NONE;
        final char[] page = new char[NODES * NODE_WIDTH + PLACES * ARC_WIDTH];
        int pageLength;

        void begin() {
            at = 0;
            blame = NONE;
            blameAt = NONE;
        }

        boolean accuse(int number, int where) {
            blame = number;
            blameAt = where;
            return false;
        }

        /** The latest token can't be there; what is no token at all is told first. */
        boolean refuse(int number, int tooLong) {
            if (sort == STRAY) {
                return accuse(1, place);
            }
            return accuse(sort == LONG ? tooLong : number, place);
        }

        boolean isAt(int sign) {
            return sort == SIGN && value == sign;
        }

        /** The next token: of a text of commands, or else of a program. */
        void next(int mostDigits, boolean commands) {
            while (at < length && text[at] == ' ') {
                at++;
            }
            place = at;
            sort = END;
            if (at >= length) {
                return;
            }
            char c = text[at];
            boolean minus = commands && c == '-';
            if (isDigit(minus ? at + 1 : at)) {
                readNumber(minus, mostDigits);
                return;
            }
            at++;
            if (c >= 'a' && c <= 'z') {
                sort = LETTER;
                value = c - 'a';
                return;
            }
            sort = isSign(c, commands) ? SIGN : STRAY;
            value = c;
        }

        private boolean isDigit(int i) {
            return i < length && text[i] >= '0' && text[i] <= '9';
        }

        private void readNumber(boolean minus, int mostDigits) {
            int digits = 0;
            int sum = 0;
            for (at = minus ? at + 1 : at; at < length && isDigit(at); at++) {
                digits++;
                if (digits <= mostDigits) {
                    sum = sum * 10 + (text[at] - '0');
                }
            }
            value = minus ? -sum : sum;
            sort = digits > mostDigits ? LONG : NUMBER;
        }

        private static boolean isSign(char c, boolean commands) {
            return c == ';' || !commands && "<=+-*()".indexOf(c) >= 0;
        }

        // THE PRINT is written upon the page

        int write(Graph g) {
            pageLength = 0;
            for (int v = 0; v < g.nodes; v++) {
                put('n');
                endCommand(g.labels[v]);
            }
            for (int p = 0; p < g.top; p++) {
                if (g.from[p] != NONE) {
                    put('a');
                    putNumber(g.from[p]);
                    putNumber(g.to[p]);
                    putNumber(g.weight[p]);
                    putNumber(g.room[p]);
                    endCommand(g.kind[p]);
                }
            }
            return pageLength;
        }

        private void endCommand(int letter) {
            put(' ');
            put((char) ('a' + letter));
            put(';');
        }

        private void put(char c) {
            if (pageLength < page.length) {
                page[pageLength] = c;
                pageLength++;
            }
        }

        private void putNumber(int number) {
            put(' ');
            if (number < 0) {
                put('-');
            }
            int rest = Math.abs(number);
            int unit = 1;
            for (int i = 0; i < 7 && rest / unit >= 10; i++) {
                unit *= 10;
            }
            for (; unit > 0; unit /= 10) {
                put((char) ('0' + rest / unit % 10));
            }
        }
    }

    // ---- least, widest, short and shortest walks

    private static final class Ways {
        /** A walk of least cost has fewer arcs than this, so that cost holds weight and number of arcs. */
        private static final long UNIT = 1024L;
        private static final int MOST = 2000;
        private static final int LONGEST = 4;
        private static final int SHIFT = 4 * MILLION;
        private static final int OPEN = 1000001;

        private int farFor = NONE;
        private int farTo;
        private int falling;
        private final long[] far = new long[NODES];
        private final int[] wide = new int[NODES];
        private final int[] hops = new int[NODES];
        private final long[] counts = new long[NODES];
        private final int[] queue = new int[NODES];
        private int shortFor = NONE;
        private int shortFrom;
        private int shortTo;
        private int shortCount;
        /** Each short way in one number, of which the order is the order of the ways. */
        private final long[] keys = new long[MOST + 1];

        long leastWeight(Graph g, int s, int t) {
            measure(g, t);
            if ((falling >> s & 1) != 0) {
                return FALLING;
            }
            return far[s] == FAR ? NO : Math.floorDiv(far[s], UNIT);
        }

        int leastArc(Graph g, int s, int t, int k) {
            measure(g, t);
            if ((falling >> s & 1) != 0 || far[s] == FAR || k >= Math.floorMod(far[s], UNIT)) {
                return NONE;
            }
            int arc = NONE;
            int u = s;
            for (int i = 0; i <= k; i++) {
                arc = stepFrom(g, u);
                if (arc == NONE) {
                    return NONE;
                }
                u = g.to[arc];
            }
            return arc;
        }

        private int stepFrom(Graph g, int u) {
            for (int i = g.outAt[u]; i < g.outAt[u + 1]; i++) {
                int p = g.outs[i];
                if (far[g.to[p]] != FAR && costOf(g, p) + far[g.to[p]] == far[u]) {
                    return p;
                }
            }
            return NONE;
        }

        private static long costOf(Graph g, int p) {
            return g.weight[p] * UNIT + 1L;
        }

        /** Costs from all nodes to t, and the nodes from which they fall without end. */
        private void measure(Graph g, int t) {
            // also when all is known: the same version may be asked of another graph, whose rows are used then
            g.tie();
            if (farFor == g.version && farTo == t) {
                return;
            }
            farFor = g.version;
            farTo = t;
            Arrays.fill(far, FAR);
            far[t] = 0;
            int changed = 1 << t;
            for (int round = 0; round < g.nodes && changed != 0; round++) {
                changed = relax(g, changed);
            }
            falling = changed == 0 ? 0 : flood(g.in, relax(g, changed), -1);
        }

        /** One round of lowering, by arcs to nodes that were lowered before: the nodes that it lowers. */
        private int relax(Graph g, int changed) {
            int lowered = 0;
            for (int rest = changed; rest != 0; rest &= rest - 1) {
                int v = lowest(rest);
                for (int i = g.inAt[v]; i < g.inAt[v + 1]; i++) {
                    int p = g.ins[i];
                    int u = g.from[p];
                    if (costOf(g, p) + far[v] < far[u]) {
                        far[u] = costOf(g, p) + far[v];
                        lowered |= 1 << u;
                    }
                }
            }
            return lowered;
        }

        int widest(Graph g, int s, int t) {
            g.tie();
            Arrays.fill(wide, NONE);
            wide[s] = OPEN;
            int todo = g.allNodes();
            for (int i = 0; i < g.nodes; i++) {
                int u = widestOf(todo);
                if (u == t || wide[u] == NONE) {
                    return wide[t];
                }
                todo &= ~(1 << u);
                for (int j = g.outAt[u]; j < g.outAt[u + 1]; j++) {
                    int p = g.outs[j];
                    wide[g.to[p]] = Math.max(wide[g.to[p]], Math.min(wide[u], g.room[p]));
                }
            }
            return wide[t];
        }

        private int widestOf(int nodes) {
            int best = lowest(nodes);
            for (int rest = nodes; rest != 0; rest &= rest - 1) {
                if (wide[lowest(rest)] > wide[best]) {
                    best = lowest(rest);
                }
            }
            return best;
        }

        int fewestArcs(Graph g, int s, int t) {
            spread(g, s);
            return hops[t];
        }

        /** How many shortest walks from s to t come by v. */
        int countBy(Graph g, int s, int t, int v) {
            spread(g, s);
            int all = hops[t];
            int before = hops[v];
            long first = counts[v];
            if (all == NONE || before == NONE) {
                return 0;
            }
            if (v != s) {
                spread(g, v);
            }
            if (hops[t] == NONE || before + hops[t] != all) {
                return 0;
            }
            return (int) (first * counts[t] % PRIME);
        }

        private void spread(Graph g, int s) {
            g.tie();
            Arrays.fill(hops, NONE);
            Arrays.fill(counts, 0L);
            hops[s] = 0;
            counts[s] = 1L;
            queue[0] = s;
            int end = 1;
            for (int begin = 0; begin < end; begin++) {
                int u = queue[begin];
                for (int i = g.outAt[u]; i < g.outAt[u + 1]; i++) {
                    int v = g.to[g.outs[i]];
                    if (hops[v] == NONE && end < NODES) {
                        hops[v] = hops[u] + 1;
                        queue[end] = v;
                        end++;
                    }
                    if (hops[v] == hops[u] + 1) {
                        counts[v] = (counts[v] + counts[u]) % PRIME;
                    }
                }
            }
        }

        int countShort(Graph g, int s, int t) {
            collect(g, s, t);
            return shortCount > MOST ? MANY : shortCount;
        }

        int arcOfShort(Graph g, int s, int t, int k, int i) {
            collect(g, s, t);
            if (shortCount > MOST || k >= shortCount) {
                return NONE;
            }
            long key = keys[k];
            if (i >= (int) (key >> 32 & 7L)) {
                return NONE;
            }
            return (int) (key >> 24 - 8 * i & 255L);
        }

        private void collect(Graph g, int s, int t) {
            if (shortFor == g.version && shortFrom == s && shortTo == t) {
                return;
            }
            g.tie();
            shortFor = g.version;
            shortFrom = s;
            shortTo = t;
            shortCount = 0;
            gather(g, s, 1 << s, 0, 0L);
            if (shortCount <= MOST) {
                sortKeys();
            }
        }

        /** Goes on from u by all arcs that can still become short ways; key holds weight and places so far. */
        private void gather(Graph g, int u, int visited, int depth, long key) {
            for (int i = g.outAt[u]; i < g.outAt[u + 1] && shortCount <= MOST && depth < LONGEST; i++) {
                int p = g.outs[i];
                int v = g.to[p];
                long longer = key + ((long) g.weight[p] << 35) + ((long) p << 24 - 8 * depth);
                if (v == shortTo) {
                    keys[shortCount] = longer + ((long) SHIFT << 35) + ((long) (depth + 1) << 32);
                    shortCount++;
                } else if ((visited >> v & 1) == 0 && leads(g, v, visited | 1 << v, LONGEST - 1 - depth)) {
                    gather(g, v, visited | 1 << v, depth + 1, longer);
                }
            }
        }

        /** Whether at most left (three or fewer) arcs lead from v to the end, by nodes that were not visited. */
        private boolean leads(Graph g, int v, int visited, int left) {
            int before = g.in[shortTo];
            if (left >= 1 && (before >> v & 1) != 0) {
                return true;
            }
            int next = g.out[v] & ~visited;
            if (left >= 2 && (next & before) != 0) {
                return true;
            }
            for (int rest = next; left >= 3 && rest != 0; rest &= rest - 1) {
                if ((g.out[lowest(rest)] & ~visited & before) != 0) {
                    return true;
                }
            }
            return false;
        }

        private void sortKeys() {
            int gap = 1;
            while (gap < shortCount / 3) {
                gap = 3 * gap + 1;
            }
            for (; gap > 0; gap /= 3) {
                for (int i = gap; i < shortCount; i++) {
                    long key = keys[i];
                    int j = i;
                    for (; j >= gap && keys[j - gap] > key; j -= gap) {
                        keys[j] = keys[j - gap];
                    }
                    keys[j] = key;
                }
            }
        }
    }

    // ---- parts, bridges, cuts, orders, cores, figures

    private static final class Parts {
        private int orderFor = NONE;
        private int orderLength;
        private final int[] orderRow = new int[NODES];
        private int coreFor = NONE;
        private final int[] cores = new int[NODES];
        private final int[] degrees = new int[NODES];

        int strongPart(Graph g, int v) {
            g.tie();
            return lowest(flood(g.out, 1 << v, -1) & flood(g.in, 1 << v, -1));
        }

        int weakPart(Graph g, int v) {
            g.tie();
            return lowest(flood(g.near, 1 << v, -1));
        }

        boolean isBridge(Graph g, int arc) {
            if (!g.isJoint(arc)) {
                return false;
            }
            int a = g.from[arc];
            int b = g.to[arc];
            for (int p = 0; p < g.top; p++) {
                if (p != arc && g.isJoint(p) && (g.from[p] == a && g.to[p] == b || g.from[p] == b && g.to[p] == a)) {
                    return false;
                }
            }
            g.tie();
            int round = flood(g.near, g.near[a] & ~(1 << b), ~(1 << a));
            return (round >> b & 1) == 0;
        }

        boolean isCut(Graph g, int v) {
            g.tie();
            int beside = g.near[v];
            int together = flood(g.near, beside & -beside, ~(1 << v));
            return (beside & ~together) != 0;
        }

        int ordered(Graph g, int k) {
            if (orderFor != g.version) {
                orderFor = g.version;
                makeOrder(g);
            }
            return k < orderLength ? orderRow[k] : NONE;
        }

        private void makeOrder(Graph g) {
            g.tie();
            int rest = g.allNodes();
            for (int i = 0; i < g.nodes; i++) {
                int v = firstFree(g, rest);
                if (v == NONE) {
                    orderLength = 0;
                    return;
                }
                orderRow[i] = v;
                rest &= ~(1 << v);
            }
            orderLength = g.nodes;
        }

        /** The least node of rest to which no arc comes from rest (a loop is one from itself). */
        private static int firstFree(Graph g, int rest) {
            for (int left = rest; left != 0; left &= left - 1) {
                if ((g.in[lowest(left)] & rest) == 0) {
                    return lowest(left);
                }
            }
            return NONE;
        }

        int coreOf(Graph g, int v) {
            if (coreFor != g.version) {
                coreFor = g.version;
                peel(g);
            }
            return cores[v];
        }

        /** Takes away a node of fewest joints, again and again. */
        private void peel(Graph g) {
            g.tie();
            int rest = g.allNodes();
            int core = 0;
            g.countJoints(degrees);
            for (int i = 0; i < g.nodes; i++) {
                int v = loosest(rest);
                core = Math.max(core, degrees[v]);
                cores[v] = core;
                rest &= ~(1 << v);
                loosen(g, v);
            }
        }

        private int loosest(int rest) {
            int best = lowest(rest);
            for (int left = rest; left != 0; left &= left - 1) {
                if (degrees[lowest(left)] < degrees[best]) {
                    best = lowest(left);
                }
            }
            return best;
        }

        private void loosen(Graph g, int v) {
            for (int i = g.outAt[v]; i < g.outAt[v + 1]; i++) {
                degrees[g.to[g.outs[i]]]--;
            }
            for (int i = g.inAt[v]; i < g.inAt[v + 1]; i++) {
                degrees[g.from[g.ins[i]]]--;
            }
        }

        /** Each triangle is met from each of its nodes, by both of the others. */
        long triangles(Graph g) {
            g.tie();
            long count = 0;
            for (int u = 0; u < g.nodes; u++) {
                for (int rest = g.near[u]; rest != 0; rest &= rest - 1) {
                    count += Integer.bitCount(g.near[u] & g.near[lowest(rest)]);
                }
            }
            return count / 6;
        }

        /** Each square is met by both pairs of nodes that are opposite in it. */
        long squares(Graph g) {
            g.tie();
            long count = 0;
            for (int u = 0; u < g.nodes; u++) {
                for (int v = u + 1; v < g.nodes; v++) {
                    int common = Integer.bitCount(g.near[u] & g.near[v]);
                    count += common * (common - 1) / 2;
                }
            }
            return count / 2;
        }
    }

    // ---- cliques and colourings

    private static final class Colours {
        private int cliqueFor = NONE;
        private int found;
        private int colourFor = NONE;
        /** How many colours there may be. */
        private int limit;
        /** The nodes of each colour. */
        private final int[] classes = new int[NODES];
        private final int[] saved = new int[NODES];
        private final int[] aside = new int[NODES];
        private int asideCount;
        private final int[] result = new int[NODES];

        int greatestClique(Graph g) {
            if (cliqueFor != g.version) {
                cliqueFor = g.version;
                g.tie();
                found = 0;
                growClique(g.near, 0, g.allNodes(), 0);
            }
            return found;
        }

        /** Tries with the least node before without it, so that the first of the greatest is the one. */
        private void growClique(int[] near, int chosen, int rest, int depth) {
            int size = Integer.bitCount(chosen);
            if (size > Integer.bitCount(found)) {
                found = chosen;
            }
            if (depth >= NODES) {
                return;
            }
            for (int left = rest; left != 0; left &= left - 1) {
                if (size + Integer.bitCount(left) <= Integer.bitCount(found)) {
                    return;
                }
                int v = lowest(left);
                growClique(near, chosen | 1 << v, left & near[v], depth + 1);
            }
        }

        int colourOf(Graph g, int v) {
            if (colourFor != g.version) {
                colourFor = g.version;
                makeColours(g);
            }
            return result[v];
        }

        private void makeColours(Graph g) {
            g.tie();
            limit = Math.max(1, Integer.bitCount(greatestClique(g)));
            asideCount = 0;
            Arrays.fill(classes, 0);
            while (limit < NODES && !fill(g.near, g.allNodes(), 0)) {
                limit++;
            }
            int used = 0;
            for (int v = 0; v < g.nodes; v++) {
                result[v] = lessen(g, v, used);
                used = Math.max(used, result[v] + 1);
            }
        }

        private int classOf(int v) {
            for (int c = 0; c < NODES; c++) {
                if ((classes[c] >> v & 1) != 0) {
                    return c;
                }
            }
            return 0;
        }

        /** Gives colours to all nodes of mask, beside those that others have, if that can be. */
        private boolean fill(int[] near, int mask, int depth) {
            if (depth > NODES) {
                return false;
            }
            int base = asideCount;
            int rest = setAside(near, mask);
            for (int i = 0; i < NODES && rest != 0; i++) {
                int piece = flood(near, rest & -rest, rest);
                if (!fillPiece(near, piece, depth)) {
                    for (int c = 0; c < limit; c++) {
                        classes[c] &= ~mask;
                    }
                    asideCount = base;
                    return false;
                }
                rest &= ~piece;
            }
            takeBack(near, base);
            return true;
        }

        private boolean fillPiece(int[] near, int piece, int depth) {
            int v = tightest(near, piece);
            int bit = 1 << v;
            int beside = besides(near, piece);
            boolean tried = false;
            for (int c = 0; c < limit; c++) {
                // colours that touch the piece nowhere are all alike: one of them is enough
                boolean fresh = (classes[c] & beside) == 0;
                if ((classes[c] & near[v]) == 0 && !(fresh && tried)) {
                    tried |= fresh;
                    classes[c] |= bit;
                    if (fill(near, piece & ~bit, depth + 1)) {
                        return true;
                    }
                    classes[c] &= ~bit;
                }
            }
            return false;
        }

        private static int besides(int[] near, int piece) {
            int beside = 0;
            for (int rest = piece; rest != 0; rest &= rest - 1) {
                beside |= near[lowest(rest)];
            }
            return beside;
        }

        /** Sets nodes aside that will find a colour whatever the others get: what is left. */
        private int setAside(int[] near, int mask) {
            int rest = mask;
            int before = 0;
            for (int i = 0; i <= NODES && rest != before; i++) {
                before = rest;
                for (int left = rest; left != 0; left &= left - 1) {
                    int v = lowest(left);
                    if (freeColours(near[v]) > Integer.bitCount(near[v] & rest) && asideCount < NODES) {
                        aside[asideCount] = v;
                        asideCount++;
                        rest &= ~(1 << v);
                    }
                }
            }
            return rest;
        }

        private void takeBack(int[] near, int base) {
            for (; asideCount > base; asideCount--) {
                int v = aside[asideCount - 1];
                int c = 0;
                while (c < limit - 1 && (classes[c] & near[v]) != 0) {
                    c++;
                }
                classes[c] |= 1 << v;
            }
        }

        private int freeColours(int beside) {
            int count = 0;
            for (int c = 0; c < limit; c++) {
                if ((classes[c] & beside) == 0) {
                    count++;
                }
            }
            return count;
        }

        private int tightest(int[] near, int piece) {
            int best = lowest(piece);
            int bestScore = NODES * NODES * NODES;
            for (int rest = piece; rest != 0; rest &= rest - 1) {
                int v = lowest(rest);
                int score = freeColours(near[v]) * 64 - Integer.bitCount(near[v] & piece);
                if (score < bestScore) {
                    bestScore = score;
                    best = v;
                }
            }
            return best;
        }

        /** Makes the colour of v the least that can be, if those before it keep theirs, of which so many are used. */
        private int lessen(Graph g, int v, int used) {
            int own = classOf(v);
            if (own > used) {
                int kept = classes[own];
                classes[own] = classes[used];
                classes[used] = kept;
                own = used;
            }
            for (int c = 0; c < own; c++) {
                if (canLower(g, v, c, own)) {
                    own = c;
                }
            }
            return own;
        }

        /** Gives v the colour c instead of own, if those before it can keep theirs. */
        private boolean canLower(Graph g, int v, int c, int own) {
            int bit = 1 << v;
            int before = bit - 1;
            if ((classes[c] & g.near[v] & before) != 0) {
                return false;
            }
            int chain = flood(g.near, bit, classes[c] | classes[own]);
            if ((chain & before) == 0) {
                classes[c] ^= chain;
                classes[own] ^= chain;
                return true;
            }
            System.arraycopy(classes, 0, saved, 0, NODES);
            for (int i = 0; i < limit; i++) {
                classes[i] &= before;
            }
            classes[c] |= bit;
            if (fill(g.near, g.allNodes() & ~before & ~bit, 0)) {
                return true;
            }
            System.arraycopy(saved, 0, classes, 0, NODES);
            return false;
        }
    }

    // ---- flows, costs, pairings

    private static final class Flows {
        /** The first step of carrying, the one before which would be above all rooms, and how many times finer each next one is. */
        private static final int STEP = 65536;
        private static final int FINER = 16;
        private int flowFor = NONE;
        private int flowFrom;
        private int flowTo;
        private long value;
        int sideMask;
        /** What can still go from each node to each other one, and the masks of where it is not 0. */
        private final int[] left = new int[NODES * NODES];
        private final int[] open = new int[NODES];
        private final int[] via = new int[NODES];
        private int pipes;
        private final int[] tail = new int[PLACES];
        private final int[] head = new int[PLACES];
        private final int[] price = new int[PLACES];
        private final int[] limit = new int[PLACES];
        private final int[] filled = new int[PLACES];
        private final int[] excess = new int[NODES];
        private final long[] far = new long[NODES];
        private int pairFor = NONE;
        int pairs;
        long pairSum;

        long greatest(Graph g, int s, int t) {
            if (flowFor == g.version && flowFrom == s && flowTo == t) {
                return value;
            }
            flowFor = g.version;
            flowFrom = s;
            flowTo = t;
            value = 0;
            openAll(g);
            for (int i = 0; i < MILLION && reach(s, t); i++) {
                value += push(s, t);
            }
            return value;
        }

        private void openAll(Graph g) {
            Arrays.fill(left, 0);
            Arrays.fill(open, 0);
            for (int p = 0; p < g.top; p++) {
                if (g.isJoint(p) && g.room[p] > 0) {
                    left[g.from[p] * NODES + g.to[p]] += g.room[p];
                    open[g.from[p]] |= 1 << g.to[p];
                }
            }
        }

        /** By layers, so that each push goes along fewest arcs; at the end the mask is THE SIDE. */
        private boolean reach(int s, int t) {
            int seen = 1 << s;
            int layer = seen;
            for (int i = 0; i < NODES && layer != 0 && (seen >> t & 1) == 0; i++) {
                int next = 0;
                for (int rest = layer; rest != 0; rest &= rest - 1) {
                    int u = lowest(rest);
                    int add = open[u] & ~seen;
                    for (int fresh = add; fresh != 0; fresh &= fresh - 1) {
                        via[lowest(fresh)] = u;
                    }
                    seen |= add;
                    next |= add;
                }
                layer = next;
            }
            sideMask = seen;
            return (seen >> t & 1) != 0;
        }

        private int push(int s, int t) {
            int most = PLACES * MILLION;
            int v = t;
            for (int i = 0; i < NODES && v != s; i++) {
                most = Math.min(most, left[via[v] * NODES + v]);
                v = via[v];
            }
            v = t;
            for (int i = 0; i < NODES && v != s; i++) {
                int u = via[v];
                left[u * NODES + v] -= most;
                if (left[u * NODES + v] == 0) {
                    open[u] &= ~(1 << v);
                }
                left[v * NODES + u] += most;
                open[v] |= 1 << u;
                v = u;
            }
            return most;
        }

        /**
         * By steps, each of which carries only where so much goes at once, and the last of which takes what is left.
         * Without them a graph may need a carrying for each unit. What a step leaves is less than the step for each
         * arc that hinders it and each node, so that the next one needs some ten thousand carryings at most.
         */
        long cheapest(Graph g, int s, int t, int wanted) {
            if (wanted > greatest(g, s, t)) {
                return NO;
            }
            long sum = layArcs(g);
            excess[s] = wanted;
            excess[t] = -wanted;
            int before = STEP * FINER;
            for (int step = STEP; step > 0; step /= FINER) {
                turnEarners(g.nodes, before, step);
                carryAll(g.nodes, step);
                before = step;
            }
            for (int e = 0; e < pipes; e++) {
                sum += (long) price[e] * filled[e];
            }
            return sum;
        }

        /** Loops need no carrying, they are filled if that earns: what it earns. */
        private long layArcs(Graph g) {
            Arrays.fill(excess, 0);
            pipes = 0;
            long sum = 0;
            for (int p = 0; p < g.top; p++) {
                if (g.isJoint(p)) {
                    lay(g.from[p], g.to[p], g.weight[p], g.room[p]);
                } else if (g.from[p] != NONE && g.weight[p] < 0) {
                    sum += (long) g.weight[p] * g.room[p];
                }
            }
            return sum;
        }

        /**
         * Of pipes that let the step before through no ring earns, so there are prices of nodes by which none of these
         * does; those of the others that let this step through and earn by them are filled, or emptied.
         */
        private void turnEarners(int nodes, int before, int step) {
            Arrays.fill(far, 0L);
            relaxAll(nodes, before);
            for (int e = 0; e < pipes; e++) {
                long more = far[tail[e]] + price[e] - far[head[e]];
                int room = limit[e] - filled[e];
                if (more < 0 && room >= step) {
                    turn(e, room);
                } else if (more > 0 && filled[e] >= step) {
                    turn(e, -filled[e]);
                }
            }
        }

        private void turn(int e, int more) {
            filled[e] += more;
            excess[head[e]] += more;
            excess[tail[e]] -= more;
        }

        private void carryAll(int nodes, int step) {
            for (int i = 0; i < MILLION; i++) {
                int target = nearestLack(nodes, step);
                if (target == NONE) {
                    return;
                }
                carryTo(target);
            }
        }

        private void lay(int u, int v, int weight, int room) {
            if (pipes < PLACES) {
                tail[pipes] = u;
                head[pipes] = v;
                price[pipes] = weight;
                limit[pipes] = room;
                filled[pipes] = 0;
                pipes++;
            }
        }

        /** The node that lacks a step or more and is cheapest to come to from any with so much too much. */
        private int nearestLack(int nodes, int step) {
            for (int v = 0; v < nodes; v++) {
                far[v] = excess[v] >= step ? 0L : FAR;
                via[v] = NONE;
            }
            relaxAll(nodes, step);
            int best = NONE;
            for (int v = 0; v < nodes; v++) {
                if (excess[v] <= -step && far[v] != FAR && (best == NONE || far[v] < far[best])) {
                    best = v;
                }
            }
            return best;
        }

        private void relaxAll(int nodes, int step) {
            boolean again = true;
            for (int i = 0; i <= nodes && again; i++) {
                again = false;
                for (int e = 0; e < pipes; e++) {
                    again |= relaxPipe(e, step);
                }
            }
        }

        /** A pipe is gone along if a step more has room in it, and backwards if so much is in it. */
        private boolean relaxPipe(int e, int step) {
            int u = tail[e];
            int v = head[e];
            if (limit[e] - filled[e] >= step && far[u] != FAR && far[u] + price[e] < far[v]) {
                far[v] = far[u] + price[e];
                via[v] = 2 * e;
                return true;
            }
            if (filled[e] >= step && far[v] != FAR && far[v] - price[e] < far[u]) {
                far[u] = far[v] - price[e];
                via[u] = 2 * e + 1;
                return true;
            }
            return false;
        }

        /** Carries as much as can be to a node along the pipes that led there: what it costs. */
        private long carryTo(int target) {
            int most = -excess[target];
            int v = target;
            for (int i = 0; i < NODES && via[v] != NONE; i++) {
                int e = via[v] >> 1;
                boolean along = (via[v] & 1) == 0;
                most = Math.min(most, along ? limit[e] - filled[e] : filled[e]);
                v = along ? tail[e] : head[e];
            }
            most = Math.min(most, excess[v]);
            excess[v] -= most;
            excess[target] += most;
            v = target;
            for (int i = 0; i < NODES && via[v] != NONE; i++) {
                int e = via[v] >> 1;
                boolean along = (via[v] & 1) == 0;
                filled[e] += along ? most : -most;
                v = along ? tail[e] : head[e];
            }
            return far[target] * most;
        }

        /** Each pair more is the cheapest way to have one more, so that each number of pairs costs least. */
        void pair(Graph g) {
            if (pairFor == g.version) {
                return;
            }
            pairFor = g.version;
            pairs = 0;
            pairSum = 0;
            pipes = 0;
            for (int v = 0; v < g.nodes; v++) {
                excess[v] = isLow(g, v) ? 1 : -1;
            }
            for (int p = 0; p < g.top; p++) {
                if (g.isJoint(p) && isLow(g, g.from[p]) != isLow(g, g.to[p])) {
                    boolean along = isLow(g, g.from[p]);
                    lay(along ? g.from[p] : g.to[p], along ? g.to[p] : g.from[p], g.weight[p], 1);
                }
            }
            for (int i = 0; i < NODES; i++) {
                int target = nearestLack(g.nodes, 1);
                if (target == NONE) {
                    return;
                }
                pairSum += carryTo(target);
                pairs++;
            }
        }

        private static boolean isLow(Graph g, int v) {
            return g.labels[v] < 13;
        }
    }

    // ---- rooted and spanning trees

    private static final class Trees {
        private int arcs;
        private final int[] tail = new int[PLACES];
        private final int[] head = new int[PLACES];
        private final long[] price = new long[PLACES];
        private final long[] least = new long[NODES];
        private final int[] before = new int[NODES];
        private final int[] seenFrom = new int[NODES];
        private final int[] ring = new int[NODES];
        private final int[] hang = new int[NODES];
        private int countFor = NONE;
        private int count;
        private final long[] grid = new long[NODES * NODES];

        /** Each node takes its cheapest arc; rings become nodes, for which the others cost what is more. */
        long leastRooted(Graph g, int root) {
            copyArcs(g);
            long sum = 0;
            int nodes = g.nodes;
            int at = root;
            for (int i = 0; i < NODES; i++) {
                if (!takeCheapest(nodes, at)) {
                    return NO;
                }
                for (int v = 0; v < nodes; v++) {
                    sum += least[v];
                }
                int rings = nameRings(nodes, at);
                if (rings == 0) {
                    return sum;
                }
                int named = nameOthers(nodes, rings);
                shrinkRings();
                at = ring[at];
                nodes = named;
            }
            return sum;
        }

        private void copyArcs(Graph g) {
            arcs = 0;
            for (int p = 0; p < g.top; p++) {
                if (g.isJoint(p)) {
                    tail[arcs] = g.from[p];
                    head[arcs] = g.to[p];
                    price[arcs] = g.weight[p];
                    arcs++;
                }
            }
        }

        private boolean takeCheapest(int nodes, int root) {
            Arrays.fill(least, FAR);
            for (int e = 0; e < arcs; e++) {
                if (tail[e] != head[e] && price[e] < least[head[e]]) {
                    least[head[e]] = price[e];
                    before[head[e]] = tail[e];
                }
            }
            least[root] = 0;
            for (int v = 0; v < nodes; v++) {
                if (least[v] == FAR) {
                    return false;
                }
            }
            return true;
        }

        private int nameRings(int nodes, int root) {
            int rings = 0;
            Arrays.fill(ring, NONE);
            Arrays.fill(seenFrom, NONE);
            for (int v = 0; v < nodes; v++) {
                int x = v;
                for (int i = 0; i <= nodes && x != root && seenFrom[x] == NONE; i++) {
                    seenFrom[x] = v;
                    x = before[x];
                }
                if (x != root && seenFrom[x] == v && ring[x] == NONE) {
                    for (int i = 0; i < nodes && ring[x] == NONE; i++) {
                        ring[x] = rings;
                        x = before[x];
                    }
                    rings++;
                }
            }
            return rings;
        }

        private int nameOthers(int nodes, int rings) {
            int named = rings;
            for (int v = 0; v < nodes; v++) {
                if (ring[v] == NONE) {
                    ring[v] = named;
                    named++;
                }
            }
            return named;
        }

        private void shrinkRings() {
            for (int e = 0; e < arcs; e++) {
                int v = head[e];
                int u = tail[e];
                if (u != v) {
                    price[e] -= least[v];
                }
                tail[e] = ring[u];
                head[e] = ring[v];
            }
        }

        boolean isSpanning(Graph g, int arc) {
            if (!g.isJoint(arc)) {
                return false;
            }
            Arrays.fill(hang, 0);
            for (int p = 0; p < g.top; p++) {
                if (g.isJoint(p) && isBefore(g, p, arc)) {
                    hang[g.from[p]] |= 1 << g.to[p];
                    hang[g.to[p]] |= 1 << g.from[p];
                }
            }
            return (flood(hang, 1 << g.from[arc], -1) >> g.to[arc] & 1) == 0;
        }

        private static boolean isBefore(Graph g, int p, int q) {
            return g.weight[p] < g.weight[q] || g.weight[p] == g.weight[q] && p < q;
        }

        int countSpanning(Graph g) {
            if (countFor != g.version) {
                countFor = g.version;
                count = g.nodes == 0 ? 0 : countTrees(g);
            }
            return count;
        }

        /** By the theorem of matrices and trees: without the last node's row and column. */
        private int countTrees(Graph g) {
            Arrays.fill(grid, 0L);
            for (int p = 0; p < g.top; p++) {
                if (g.isJoint(p)) {
                    grid[g.from[p] * NODES + g.from[p]] += 1L;
                    grid[g.to[p] * NODES + g.to[p]] += 1L;
                    grid[g.from[p] * NODES + g.to[p]] -= 1L;
                    grid[g.to[p] * NODES + g.from[p]] -= 1L;
                }
            }
            for (int i = 0; i < grid.length; i++) {
                grid[i] = Math.floorMod(grid[i], PRIME);
            }
            int size = g.nodes - 1;
            long product = 1L;
            for (int c = 0; c < size && product != 0L; c++) {
                product = product * pivot(c, size) % PRIME;
            }
            return (int) product;
        }

        /** Clears a column below its row: the number by which the product grows. */
        private long pivot(int c, int size) {
            int row = c;
            while (row < size && grid[row * NODES + c] == 0L) {
                row++;
            }
            if (row >= size) {
                return 0L;
            }
            if (row != c) {
                swapRows(row, c);
            }
            long top = grid[c * NODES + c];
            long inverse = power(top, PRIME - 2L);
            for (int r = c + 1; r < size; r++) {
                long times = (PRIME - grid[r * NODES + c]) * inverse % PRIME;
                for (int i = c; i < size && times != 0L; i++) {
                    grid[r * NODES + i] = (grid[r * NODES + i] + times * grid[c * NODES + i]) % PRIME;
                }
            }
            return row == c ? top : PRIME - top;
        }

        private void swapRows(int a, int b) {
            for (int i = 0; i < NODES; i++) {
                long kept = grid[a * NODES + i];
                grid[a * NODES + i] = grid[b * NODES + i];
                grid[b * NODES + i] = kept;
            }
        }

        private static long power(long base, long exponent) {
            long result = 1L;
            long square = base;
            for (long rest = exponent; rest > 0L; rest >>= 1) {
                if ((rest & 1L) != 0L) {
                    result = result * square % PRIME;
                }
                square = square * square % PRIME;
            }
            return result;
        }
    }

    // ---- ranks and groups

    private static final class Groups {
        private static final long UNITS = 1000000000000L;

        private int rankFor = NONE;
        private int roundsDone;
        private long[] units = new long[NODES];
        private long[] later = new long[NODES];
        private int groupFor = NONE;
        private int joints;
        private final int[] home = new int[NODES];
        private final int[] members = new int[NODES];
        private final int[] degrees = new int[NODES];
        private final int[] weights = new int[NODES];
        private final int[] links = new int[NODES];

        long unitsOf(Graph g, int v, int rounds) {
            if (rankFor != g.version || rounds < roundsDone) {
                rankFor = g.version;
                roundsDone = 0;
                Arrays.fill(units, UNITS);
            }
            g.tie();
            for (; roundsDone < rounds; roundsDone++) {
                shareOut(g);
            }
            return units[v];
        }

        private void shareOut(Graph g) {
            long pot = 0;
            Arrays.fill(later, 0L);
            for (int u = 0; u < g.nodes; u++) {
                int count = g.outCount(u);
                long each = count == 0 ? 0L : units[u] * 85L / (100L * count);
                for (int i = g.outAt[u]; i < g.outAt[u + 1]; i++) {
                    later[g.to[g.outs[i]]] += each;
                }
                pot += units[u] - each * count;
            }
            for (int v = 0; v < g.nodes; v++) {
                later[v] += pot / g.nodes + (v < pot % g.nodes ? 1L : 0L);
            }
            long[] kept = units;
            units = later;
            later = kept;
        }

        int groupOf(Graph g, int v) {
            settle(g);
            return lowest(members[home[v]]);
        }

        long totalGain(Graph g) {
            settle(g);
            long sum = 0;
            for (int p = 0; p < g.top; p++) {
                if (g.isJoint(p) && home[g.from[p]] == home[g.to[p]]) {
                    sum += 4L * joints;
                }
            }
            for (int v = 0; v < g.nodes; v++) {
                sum -= (long) degrees[v] * (weights[home[v]] - degrees[v]);
            }
            return sum;
        }

        private void settle(Graph g) {
            if (groupFor == g.version) {
                return;
            }
            groupFor = g.version;
            begin(g);
            boolean moved = true;
            for (int round = 0; round < 20 && moved; round++) {
                moved = false;
                for (int v = 0; v < g.nodes; v++) {
                    moved |= settleNode(g, v);
                }
            }
        }

        private void begin(Graph g) {
            g.tie();
            joints = g.joints();
            g.countJoints(degrees);
            Arrays.fill(members, 0);
            for (int v = 0; v < g.nodes; v++) {
                home[v] = v;
                members[v] = 1 << v;
                weights[v] = degrees[v];
            }
        }

        private boolean settleNode(Graph g, int v) {
            countLinks(g, v);
            int old = home[v];
            long stay = score(v, old);
            int best = NONE;
            int seen = 0;
            for (int rest = g.near[v]; rest != 0; rest &= rest - 1) {
                int c = home[lowest(rest)];
                if (c != old && (seen >> c & 1) == 0) {
                    seen |= 1 << c;
                    best = best == NONE || isBetter(v, c, best) ? c : best;
                }
            }
            if (best == NONE || score(v, best) < 0L) {
                // to be alone gains 0
                return 0L > stay && moveTo(v, freeGroup());
            }
            return score(v, best) > stay && moveTo(v, best);
        }

        private boolean isBetter(int v, int c, int best) {
            long gain = score(v, c) - score(v, best);
            return gain > 0L || gain == 0L && lowest(members[c]) < lowest(members[best]);
        }

        private void countLinks(Graph g, int v) {
            Arrays.fill(links, 0);
            for (int i = g.outAt[v]; i < g.outAt[v + 1]; i++) {
                links[home[g.to[g.outs[i]]]]++;
            }
            for (int i = g.inAt[v]; i < g.inAt[v + 1]; i++) {
                links[home[g.from[g.ins[i]]]]++;
            }
            // loops are no joints
            for (int i = g.outAt[v]; i < g.outAt[v + 1]; i++) {
                if (g.to[g.outs[i]] == v) {
                    links[home[v]] -= 2;
                }
            }
        }

        /** Half of what v gains with the others of a group. */
        private long score(int v, int c) {
            int others = home[v] == c ? weights[c] - degrees[v] : weights[c];
            return 2L * joints * links[c] - (long) degrees[v] * others;
        }

        private int freeGroup() {
            for (int c = 0; c < NODES; c++) {
                if (members[c] == 0) {
                    return c;
                }
            }
            return NONE;
        }

        private boolean moveTo(int v, int c) {
            if (c == NONE) {
                return false;
            }
            int old = home[v];
            members[old] &= ~(1 << v);
            weights[old] -= degrees[v];
            weights[c] = members[c] == 0 ? degrees[v] : weights[c] + degrees[v];
            members[c] |= 1 << v;
            home[v] = c;
            return true;
        }
    }

    // ---- questions by patterns

    private static final class Question {
        private static final int MOST = 60;
        private static final int DEEPEST = 10;

        /** Where a word may begin, and where it ends; each character's place is a bit. */
        private long start = 1L;
        private long accept = 1L;
        /** To which letters (or the end) one comes from each place without a step. */
        private final long[] jumps = new long[MOST + 1];
        private final long[] match = new long[LETTERS];
        private final int[] opens = new int[DEEPEST + 1];
        private final long[] bars = new long[DEEPEST + 1];
        private final long[] now = new long[NODES];
        private final long[] next = new long[NODES];
        private final long[] seen = new long[NODES];

        boolean adopt(Script r) {
            r.begin();
            if (r.length > MOST) {
                return r.accuse(2, MOST);
            }
            if (!isGood(r)) {
                return false;
            }
            build(r);
            return true;
        }

        private static boolean isGood(Script r) {
            int depth = 0;
            boolean behindAtom = false;
            for (int i = 0; i < r.length; i++) {
                char c = r.text[i];
                int bad = judge(c, behindAtom, depth);
                if (bad != NONE) {
                    return r.accuse(bad, i);
                }
                if (c == '(') {
                    depth++;
                }
                if (c == ')') {
                    depth--;
                }
                behindAtom = c == ')' || isAtom(c);
            }
            return depth == 0 || r.accuse(2, r.length);
        }

        private static int judge(int c, boolean behindAtom, int depth) {
            switch (c) {
                case '*':
                case '+':
                case '?':
                    return behindAtom ? NONE : 2;
                case '(':
                    return depth < DEEPEST ? NONE : 3;
                case ')':
                    return depth > 0 ? NONE : 2;
                case '|':
                    return NONE;
                default:
                    return isAtom(c) ? NONE : 1;
            }
        }

        private static boolean isAtom(int c) {
            return c == '.' || c >= 'a' && c <= 'z';
        }

        private void build(Script r) {
            Arrays.fill(jumps, 0L);
            Arrays.fill(match, 0L);
            start = 1L;
            accept = 1L << r.length;
            bars[0] = 0L;
            int depth = 0;
            for (int i = 0; i < r.length; i++) {
                char c = r.text[i];
                int begin = i;
                if (c == '(' && depth < DEEPEST) {
                    depth++;
                    opens[depth] = i;
                    bars[depth] = 0L;
                } else if (c == ')' && depth > 0) {
                    begin = opens[depth];
                    closeBars(bars[depth], 1L << i);
                    depth--;
                }
                layPlace(c, i, depth);
                if (i + 1 < r.length) {
                    layRepeat(r.text[i + 1], begin, i + 1);
                }
            }
            closeBars(bars[0], accept);
            close(r.length);
        }

        private void closeBars(long mask, long end) {
            for (long rest = mask; rest != 0L; rest &= rest - 1L) {
                jumps[lowestOfLong(rest)] |= end;
            }
        }

        private void layPlace(char c, int i, int depth) {
            long behind = 1L << i + 1;
            if (c == '.') {
                for (int k = 0; k < LETTERS; k++) {
                    match[k] |= 1L << i;
                }
            } else if (isAtom(c)) {
                match[c - 'a'] |= 1L << i;
            } else if (c != '|') {
                jumps[i] |= behind;
            } else {
                bars[depth] |= 1L << i;
                if (depth == 0) {
                    start |= behind;
                } else {
                    jumps[opens[depth]] |= behind;
                }
            }
        }

        /** The sign of repeating behind an atom leads back to it, or round it. */
        private void layRepeat(char sign, int begin, int at) {
            if (sign == '*' || sign == '+') {
                jumps[at] |= 1L << begin;
            }
            if (sign == '*' || sign == '?') {
                jumps[begin] |= 1L << at;
            }
        }

        /** Follows all jumps to their ends, and keeps only those that end at letters or at the end. */
        private void close(int length) {
            for (int i = 0; i <= length; i++) {
                jumps[i] |= 1L << i;
            }
            for (int k = 0; k <= length; k++) {
                for (int i = 0; i <= length; i++) {
                    if ((jumps[i] >> k & 1L) != 0L) {
                        jumps[i] |= jumps[k];
                    }
                }
            }
            long ends = accept;
            for (int k = 0; k < LETTERS; k++) {
                ends |= match[k];
            }
            for (int i = 0; i <= length; i++) {
                jumps[i] &= ends;
            }
            long first = 0L;
            for (long rest = start; rest != 0L; rest &= rest - 1L) {
                first |= jumps[lowestOfLong(rest)];
            }
            start = first;
        }

        int leastFit(Graph g, int s, int t) {
            g.tie();
            Arrays.fill(now, 0L);
            Arrays.fill(seen, 0L);
            now[s] = start;
            seen[s] = start;
            for (int arcs = 0; arcs <= NODES * (MOST + 1); arcs++) {
                if ((seen[t] & accept) != 0L) {
                    return arcs;
                }
                if (!step(g)) {
                    return NONE;
                }
            }
            return NONE;
        }

        /** All walks that fit so far get one arc longer: whether one comes to what was not seen. */
        private boolean step(Graph g) {
            boolean fresh = false;
            Arrays.fill(next, 0L);
            for (int u = 0; u < g.nodes; u++) {
                for (int i = g.outAt[u]; i < g.outAt[u + 1] && now[u] != 0L; i++) {
                    int p = g.outs[i];
                    int v = g.to[p];
                    long add = behind(now[u] & match[g.kind[p]]) & ~seen[v];
                    next[v] |= add;
                    seen[v] |= add;
                    fresh |= add != 0L;
                }
            }
            System.arraycopy(next, 0, now, 0, NODES);
            return fresh;
        }

        private long behind(long places) {
            long result = 0L;
            for (long rest = places; rest != 0L; rest &= rest - 1L) {
                result |= jumps[lowestOfLong(rest) + 1];
            }
            return result;
        }
    }

    // ---- programs that the nodes run

    private static final class Engine {
        private static final int MOST = 120;
        private static final int DIGITS = 6;
        private static final int DEEPEST = 10;
        private static final long BOUND = 1000000000000L;
        private static final String NAMES = "xnldirsmg";
        private static final int NAME = 1000000;
        private static final int SIGNS = 1000100;
        private static final int NEGATE = SIGNS + '~';

        /** Numbers stand for themselves, names and signs behind them; operands come first. */
        private final int[] code = new int[MOST];
        private int split = 1;
        private int codeLength = 2;
        private final int[] draft = new int[MOST];
        private int draftLength;
        private final long[] stack = new long[MOST];
        private final long[] values = new long[9];
        final long[] states = new long[NODES];
        private final long[] before = new long[NODES];
        int nodes;
        int sent;
        int lost;
        int turns;

        boolean adopt(Script r) {
            r.begin();
            if (r.length > MOST) {
                return r.accuse(2, MOST);
            }
            draftLength = 0;
            r.next(DIGITS, false);
            if (!readExpression(r, 0)) {
                return false;
            }
            if (!r.isAt(';')) {
                return r.refuse(2, 4);
            }
            int first = draftLength;
            r.next(DIGITS, false);
            if (!readExpression(r, 0)) {
                return false;
            }
            if (r.sort != Script.END) {
                return r.refuse(2, 4);
            }
            split = first;
            codeLength = draftLength;
            System.arraycopy(draft, 0, code, 0, draftLength);
            return true;
        }

        private boolean emit(int c) {
            if (draftLength < MOST) {
                draft[draftLength] = c;
                draftLength++;
            }
            return true;
        }

        private boolean readExpression(Script r, int depth) {
            if (!readSum(r, depth)) {
                return false;
            }
            if (!r.isAt('<') && !r.isAt('=')) {
                return true;
            }
            int sign = r.value;
            r.next(DIGITS, false);
            return readSum(r, depth) && emit(SIGNS + sign);
        }

        private boolean readSum(Script r, int depth) {
            if (!readProduct(r, depth)) {
                return false;
            }
            for (int i = 0; i < MOST && (r.isAt('+') || r.isAt('-')); i++) {
                int sign = r.value;
                r.next(DIGITS, false);
                if (!readProduct(r, depth)) {
                    return false;
                }
                emit(SIGNS + sign);
            }
            return true;
        }

        private boolean readProduct(Script r, int depth) {
            if (!readFactor(r, depth)) {
                return false;
            }
            for (int i = 0; i < MOST && r.isAt('*'); i++) {
                r.next(DIGITS, false);
                if (!readFactor(r, depth)) {
                    return false;
                }
                emit(SIGNS + '*');
            }
            return true;
        }

        private boolean readFactor(Script r, int depth) {
            if (r.sort == Script.NUMBER || r.sort == Script.LETTER) {
                return readAtom(r);
            }
            boolean minus = r.isAt('-');
            if (!minus && !r.isAt('(')) {
                return r.refuse(2, 4);
            }
            if (depth >= DEEPEST) {
                return r.accuse(3, r.place);
            }
            r.next(DIGITS, false);
            if (minus) {
                return readFactor(r, depth + 1) && emit(NEGATE);
            }
            if (!readExpression(r, depth + 1)) {
                return false;
            }
            if (!r.isAt(')')) {
                return r.refuse(2, 4);
            }
            r.next(DIGITS, false);
            return true;
        }

        private boolean readAtom(Script r) {
            int c = r.value;
            if (r.sort == Script.LETTER) {
                int name = NAMES.indexOf((char) ('a' + r.value));
                if (name < 0) {
                    return r.accuse(5, r.place);
                }
                c = NAME + name;
            }
            emit(c);
            r.next(DIGITS, false);
            return true;
        }

        /** All rounds without letters: how many were done. */
        int work(Graph g, int rounds) {
            g.tie();
            nodes = g.nodes;
            Arrays.fill(before, 0L);
            doRound(g, 0);
            for (int r = 1; r <= rounds; r++) {
                System.arraycopy(states, 0, before, 0, NODES);
                if (!doRound(g, r)) {
                    return r;
                }
            }
            return rounds;
        }

        private boolean doRound(Graph g, int round) {
            boolean changed = false;
            for (int v = 0; v < g.nodes; v++) {
                look(g, v, round);
                states[v] = round == 0 ? compute(0, split) : compute(split, codeLength);
                changed |= states[v] != before[v];
            }
            return changed;
        }

        private void look(Graph g, int v, int round) {
            long sum = 0;
            long least = BOUND;
            long most = -BOUND;
            for (int i = g.inAt[v]; i < g.inAt[v + 1]; i++) {
                int p = g.ins[i];
                long told = before[g.from[p]];
                long weighed = clip(told + g.weight[p]);
                sum += told;
                least = Math.min(least, weighed);
                most = Math.max(most, weighed);
            }
            values[0] = before[v];
            values[1] = v;
            values[2] = g.labels[v];
            values[3] = g.outCount(v);
            values[4] = g.inCount(v);
            values[5] = round;
            values[6] = clip(sum);
            values[7] = least;
            values[8] = most;
        }

        private long compute(int begin, int end) {
            int depth = 0;
            for (int i = begin; i < end; i++) {
                int c = code[i];
                if (c < SIGNS) {
                    stack[depth] = c < NAME ? c : values[c - NAME];
                    depth++;
                } else if (c == NEGATE) {
                    stack[depth - 1] = -stack[depth - 1];
                } else {
                    depth--;
                    stack[depth - 1] = combine(c - SIGNS, stack[depth - 1], stack[depth]);
                }
            }
            return stack[0];
        }

        private static long combine(int sign, long a, long b) {
            switch (sign) {
                case '+':
                    return clip(a + b);
                case '-':
                    return clip(a - b);
                case '*':
                    return times(a, b);
                case '<':
                    return a < b ? 1L : 0L;
                default:
                    return a == b ? 1L : 0L;
            }
        }

        /** The product of what is within the bound might run over 64 bits. */
        private static long times(long a, long b) {
            if (a == 0L || Math.abs(b) <= BOUND / Math.abs(a)) {
                return a * b;
            }
            return a > 0L == b > 0L ? BOUND : -BOUND;
        }

        private static long clip(long v) {
            return Math.max(-BOUND, Math.min(BOUND, v));
        }

        /** The letters of all rounds; which one is lost is of no matter, only how many are sent again. */
        void post(Graph g, int rounds, int workers, int loss, long seed) {
            sent = 0;
            lost = 0;
            turns = 0;
            int each = lettersOf(g, workers);
            for (int r = 0; r < rounds; r++) {
                int waiting = each;
                for (int i = 0; i < MILLION && waiting > 0; i++) {
                    waiting = sendAll(waiting, loss, seed);
                    turns++;
                }
            }
        }

        private static int lettersOf(Graph g, int workers) {
            if (workers < 1) {
                return 0;
            }
            int count = 0;
            for (int u = 0; u < g.nodes; u++) {
                int reached = 0;
                for (int rest = g.out[u]; rest != 0; rest &= rest - 1) {
                    reached |= 1 << lowest(rest) % workers;
                }
                count += Integer.bitCount(reached & ~(1 << u % workers));
            }
            return count;
        }

        private int sendAll(int letters, int loss, long seed) {
            int gone = 0;
            for (int i = 0; i < letters; i++) {
                sent++;
                if (draw(seed + 0x9E3779B97F4A7C15L * sent) < loss) {
                    gone++;
                }
            }
            lost += gone;
            return gone;
        }

        private static long draw(long seeded) {
            long z = seeded;
            z = (z ^ z >>> 30) * 0xBF58476D1CE4E5B9L;
            z = (z ^ z >>> 27) * 0x94D049BB133111EBL;
            z = z ^ z >>> 31;
            return (z >>> 33) % 100L;
        }
    }
}
