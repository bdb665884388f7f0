import java.util.ArrayList;
import java.util.List;

/** What the tests share: counting of wrong answers, a fixed row of dice, and graphs that are known twice. */
final class Support {
    static int asked = 0;
    static int wrong = 0;
    /** The words of the document of which the answers are a test. */
    static String about = "";

    interface Call {
        Object go();
    }

    static void due(String what, Object got, Object want) {
        asked++;
        if (!String.valueOf(got).equals(String.valueOf(want))) {
            wrong++;
            if (wrong <= 20) {
                System.out.println(about + what + " answered " + got + ", due is " + want);
            }
        }
    }

    /** The call throws exactly an IllegalArgumentException. */
    static void illegal(String what, Call call) {
        due(what, outcome(call), IllegalArgumentException.class);
    }

    /** The call throws exactly an IllegalStateException. */
    static void unready(String what, Call call) {
        due(what, outcome(call), IllegalStateException.class);
    }

    /** The nearest and the farthest numbers that are out of bounds. */
    static int[] outside(int low, int high) {
        return new int[] {Integer.MIN_VALUE, low - 1, high + 1, Integer.MAX_VALUE};
    }

    /** A house with so many nodes, all of label 0. */
    static GraphHouse withNodes(int count) {
        GraphHouse h = new GraphHouse();
        for (int i = 0; i < count; i++) {
            h.node(0);
        }
        return h;
    }

    /** Arcs from one node of the row to the next, of weight 1, room 1, kind 0. */
    static void chain(GraphHouse h, int... nodes) {
        for (int i = 1; i < nodes.length; i++) {
            h.arc(nodes[i - 1], nodes[i], 1, 1, 0);
        }
    }

    /** A house with the nodes 0 and 1, the arc 0 between them and so many changes, within 485 calls. */
    static GraphHouse withChanges(int changes) {
        GraphHouse h = withNodes(2);
        h.arc(0, 1, 5, 6, 7);
        retype(h, "w0 5;".repeat(81));
        // bounded, so that a house that makes no changes is told as wrong, and not waited for
        for (int i = 0; i < 60 && h.version() + 81 <= changes; i++) {
            h.load();
        }
        h.wipe();
        for (int i = 0; i < 81 && h.version() < changes; i++) {
            h.label(0, 0);
        }
        due("changes", h.version(), changes);
        return h;
    }

    private static Object outcome(Call call) {
        try {
            return call.go();
        } catch (RuntimeException e) {
            return e.getClass();
        }
    }

    static void finish(String name) {
        System.out.println(name + ": " + asked + " answers, " + wrong + " wrong");
        if (wrong > 0 || asked == 0) {
            System.exit(1);
        }
    }

    static void retype(GraphHouse h, String text) {
        h.wipe();
        for (char c : text.toCharArray()) {
            h.type(c);
        }
    }

    static String printOf(GraphHouse h) {
        StringBuilder b = new StringBuilder();
        int length = h.print();
        for (int i = 0; i < length; i++) {
            b.append((char) h.printed(i));
        }
        return b.toString();
    }

    static final class Dice {
        private long s;

        Dice(long seed) {
            s = seed * 2862933555777941757L + 3037000493L;
        }

        int below(int n) {
            s = s * 6364136223846793005L + 1442695040888963407L;
            return (int) ((s >>> 33) % n);
        }

        int from(int low, int high) {
            return low + below(high - low + 1);
        }
    }

    /** A house together with a plain list of what was put into it; arcs[p] is null where none is. */
    static final class Mirror {
        final GraphHouse h = new GraphHouse();
        final List<Integer> labels = new ArrayList<>();
        final int[][] arcs = new int[160][];
        private final int[][] joined = new int[32][32];
        private String told;

        int n() {
            return labels.size();
        }

        void node(int label) {
            due("node", h.node(label), labels.size());
            labels.add(label);
        }

        int arc(int from, int to, int weight, int room, int kind) {
            int p = 0;
            while (arcs[p] != null) {
                p++;
            }
            arcs[p] = new int[] {from, to, weight, room, kind};
            join(p, 1);
            due("arc", h.arc(from, to, weight, room, kind), p);
            return p;
        }

        void take(int p) {
            join(p, -1);
            arcs[p] = null;
            h.take(p);
        }

        private void join(int p, int more) {
            told = null;
            if (joint(p)) {
                joined[arcs[p][0]][arcs[p][1]] += more;
                joined[arcs[p][1]][arcs[p][0]] += more;
            }
        }

        @Override
        public String toString() {
            told = told == null ? printOf(h) : told;
            return told;
        }

        boolean joint(int p) {
            return arcs[p] != null && arcs[p][0] != arcs[p][1];
        }

        boolean near(int u, int v) {
            return joined[u][v] > 0;
        }

        /** How many joints there are between two nodes. */
        int between(int u, int v) {
            return joined[u][v];
        }

        int joints() {
            int count = 0;
            for (int p = 0; p < 160; p++) {
                count += joint(p) ? 1 : 0;
            }
            return count;
        }
    }

    /** A graph by dice; some arcs are taken again, so that places have gaps. */
    static Mirror byDice(Dice d, int nodes, int arcs, int low, int high, int mostRoom) {
        Mirror m = new Mirror();
        for (int i = 0; i < nodes; i++) {
            m.node(d.below(26));
        }
        for (int i = 0; i < arcs && nodes > 0; i++) {
            m.arc(d.below(nodes), d.below(nodes), d.from(low, high), d.from(0, mostRoom), d.below(3));
            if (d.below(6) == 0) {
                int p = d.below(i + 1);
                if (m.arcs[p] != null) {
                    m.take(p);
                }
            }
        }
        return m;
    }
}
