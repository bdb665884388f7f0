import java.util.ArrayList;
import java.util.Arrays;
import java.util.List;

/** Promises 19 to 23: distances, ways, widths and short ways, beside plain enumerations. */
public final class WalksTest {
    private static final long INF = Long.MAX_VALUE / 4;

    public static void main(String[] args) {
        edges();
        for (int seed = 0; seed < 1500; seed++) {
            Support.Dice d = new Support.Dice(seed);
            int low = d.below(3) == 0 ? 0 : d.from(-4, 0);
            Support.Mirror m = Support.byDice(d, d.from(1, 6), d.below(13), low, d.from(1, 6), d.from(0, 9));
            compare(m);
        }
        for (int seed = 0; seed < 25; seed++) {
            Support.Dice d = new Support.Dice(seed);
            compareBig(Support.byDice(d, d.from(15, 32), d.from(40, 160), d.from(-2, 1), 20, 1000000));
        }
        versions();
        longWay();
        tooMany();
        deadEnds();
        Support.finish("WalksTest");
    }

    private static void edges() {
        GraphHouse h = new GraphHouse();
        Support.illegal("no nodes", () -> h.distance(0, 0));
        h.node(0);
        h.node(0);
        Support.due("empty walk", h.distance(0, 0) + " " + h.way(0, 0, 0) + " " + h.width(0, 0), "0 -1 1000001");
        Support.due("no walk", h.distance(0, 1) + " " + h.way(0, 1, 0) + " " + h.width(0, 1), GraphHouse.NO + " -1 -1");
        int[][] bad = {{-1, 0}, {0, -1}, {2, 0}, {0, 2}};
        for (int[] b : bad) {
            Support.illegal("distance", () -> h.distance(b[0], b[1]));
            Support.illegal("way", () -> h.way(b[0], b[1], 0));
            Support.illegal("width", () -> h.width(b[0], b[1]));
            Support.illegal("shorts", () -> h.shorts(b[0], b[1]));
            Support.illegal("shortArc", () -> h.shortArc(b[0], b[1], 0, 0));
        }
        Support.illegal("way k", () -> h.way(0, 0, -1));
        Support.illegal("shorts s is t", () -> h.shorts(1, 1));
        Support.illegal("shortArc s is t", () -> h.shortArc(1, 1, 0, 0));
        Support.illegal("shortArc k", () -> h.shortArc(0, 1, -1, 0));
        Support.illegal("shortArc i", () -> h.shortArc(0, 1, 0, -1));
        h.arc(0, 0, 0, 5, 0);
        Support.due("a loop of 0", h.distance(0, 0) + " " + h.way(0, 0, 0), "0 -1");
        h.arc(1, 1, -1, 5, 0);
        Support.due("not reached", h.distance(0, 0), 0);
        Support.due("falling loop", h.distance(1, 1) + " " + h.way(1, 1, 0), GraphHouse.FALLING + " -1");
        h.arc(0, 1, 0, 0, 0);
        Support.due("falling by its end", h.distance(0, 1), GraphHouse.FALLING);
        Support.due("told though others fall", h.distance(0, 0), 0);
        Support.due("room 0 is a width", h.width(0, 1), 0);
        Support.due("far numbers", h.way(0, 0, Integer.MAX_VALUE) + " "
            + h.shortArc(0, 1, Integer.MAX_VALUE, 0) + " " + h.shortArc(0, 1, 0, Integer.MAX_VALUE), "-1 -1 -1");
    }

    private static void compare(Support.Mirror m) {
        long[][] d = distances(m);
        for (int s = 0; s < m.n(); s++) {
            for (int t = 0; t < m.n(); t++) {
                String what = m + " from " + s + " to " + t + ": ";
                long want = wanted(d, s, t);
                Support.due(what + "distance", m.h.distance(s, t), want);
                List<Integer> best = want >= GraphHouse.NO ? new ArrayList<>() : leastWay(m, s, t, want);
                List<Integer> got = new ArrayList<>();
                for (int k = 0; k < 10 && m.h.way(s, t, k) != GraphHouse.NONE; k++) {
                    got.add(m.h.way(s, t, k));
                }
                Support.due(what + "way", got, best);
                Support.due(what + "width", m.h.width(s, t), s == t ? 1000001 : width(m, s, t, 1 << s));
                if (s != t) {
                    compareShort(m, s, t, what);
                }
            }
        }
    }

    /** Up to 32 nodes: ways by the least weights of so many arcs, widths by drawing ways together. */
    private static void compareBig(Support.Mirror m) {
        int n = m.n();
        long[][] d = distances(m);
        int[][] wide = new int[n][n];
        for (int i = 0; i < n; i++) {
            Arrays.fill(wide[i], -1);
            wide[i][i] = 1000001;
        }
        for (int[] a : m.arcs) {
            if (a != null) {
                wide[a[0]][a[1]] = Math.max(wide[a[0]][a[1]], a[3]);
            }
        }
        for (int k = 0; k < n; k++) {
            for (int i = 0; i < n; i++) {
                for (int j = 0; j < n; j++) {
                    wide[i][j] = Math.max(wide[i][j], Math.min(wide[i][k], wide[k][j]));
                }
            }
        }
        for (int t = 0; t < n; t++) {
            long[][] by = weightsByArcs(m, t);
            for (int s = 0; s < n; s++) {
                String what = m + " from " + s + " to " + t + ": ";
                long want = wanted(d, s, t);
                Support.due(what + "distance", m.h.distance(s, t), want);
                Support.due(what + "width", m.h.width(s, t), wide[s][t]);
                int left = 0;
                while (left <= n && by[left][s] != want) {
                    left++;
                }
                int u = s;
                for (int k = 0; want < GraphHouse.NO && k <= n; k++) {
                    int p = stepOf(m, by, u, left - k);
                    Support.due(what + "way " + k, m.h.way(s, t, k), p);
                    u = p < 0 ? u : m.arcs[p][1];
                }
                if (s != t && (s + t) % 7 == 0) {
                    compareShort(m, s, t, what);
                }
            }
        }
    }

    /** The least weight of walks of exactly k arcs from each node to t. */
    private static long[][] weightsByArcs(Support.Mirror m, int t) {
        long[][] by = new long[m.n() + 1][m.n()];
        for (long[] row : by) {
            Arrays.fill(row, INF);
        }
        by[0][t] = 0;
        for (int k = 1; k <= m.n(); k++) {
            for (int[] a : m.arcs) {
                if (a != null && by[k - 1][a[1]] < INF) {
                    by[k][a[0]] = Math.min(by[k][a[0]], by[k - 1][a[1]] + a[2]);
                }
            }
        }
        return by;
    }

    private static int stepOf(Support.Mirror m, long[][] by, int u, int left) {
        for (int p = 0; p < 160 && left > 0; p++) {
            int[] a = m.arcs[p];
            if (a != null && a[0] == u && by[left - 1][a[1]] < INF && by[left - 1][a[1]] + a[2] == by[left][u]) {
                return p;
            }
        }
        return -1;
    }

    private static long[][] distances(Support.Mirror m) {
        int n = m.n();
        long[][] d = new long[n][n];
        for (int i = 0; i < n; i++) {
            Arrays.fill(d[i], INF);
            d[i][i] = 0;
        }
        for (int[] a : m.arcs) {
            if (a != null) {
                d[a[0]][a[1]] = Math.min(d[a[0]][a[1]], a[2]);
            }
        }
        for (int k = 0; k < n; k++) {
            for (int i = 0; i < n; i++) {
                for (int j = 0; j < n; j++) {
                    if (d[i][k] < INF && d[k][j] < INF) {
                        d[i][j] = Math.max(-INF, Math.min(d[i][j], d[i][k] + d[k][j]));
                    }
                }
            }
        }
        return d;
    }

    private static long wanted(long[][] d, int s, int t) {
        if (d[s][t] >= INF) {
            return GraphHouse.NO;
        }
        for (int k = 0; k < d.length; k++) {
            if (d[k][k] < 0 && d[s][k] < INF && d[k][t] < INF) {
                return GraphHouse.FALLING;
            }
        }
        return d[s][t];
    }

    private static List<Integer> leastWay(Support.Mirror m, int s, int t, long weight) {
        for (int length = 0; length <= m.n(); length++) {
            List<Integer> found = walk(m, s, t, weight, length);
            if (found != null) {
                return found;
            }
        }
        throw new AssertionError("no way of that weight");
    }

    private static List<Integer> walk(Support.Mirror m, int s, int t, long weight, int length) {
        if (length == 0) {
            return s == t && weight == 0 ? new ArrayList<>() : null;
        }
        for (int p = 0; p < 160; p++) {
            if (m.arcs[p] != null && m.arcs[p][0] == s) {
                List<Integer> rest = walk(m, m.arcs[p][1], t, weight - m.arcs[p][2], length - 1);
                if (rest != null) {
                    rest.add(0, p);
                    return rest;
                }
            }
        }
        return null;
    }

    private static int width(Support.Mirror m, int s, int t, int seen) {
        if (s == t) {
            return 1000001;
        }
        int best = -1;
        for (int[] a : m.arcs) {
            if (a != null && a[0] == s && (seen >> a[1] & 1) == 0) {
                best = Math.max(best, Math.min(a[3], width(m, a[1], t, seen | 1 << a[1])));
            }
        }
        return best;
    }

    private static void compareShort(Support.Mirror m, int s, int t, String what) {
        List<List<Integer>> all = new ArrayList<>();
        shortWays(m, s, t, 1 << s, new ArrayList<>(), all);
        all.sort((a, b) -> order(m, a, b));
        Support.due(what + "shorts", m.h.shorts(s, t), all.size() > 2000 ? GraphHouse.MANY : all.size());
        for (int k = 0; k <= all.size() && k < 60; k++) {
            for (int i = 0; i < 5; i++) {
                boolean there = all.size() <= 2000 && k < all.size() && i < all.get(k).size();
                Support.due(what + "shortArc " + k + " " + i, m.h.shortArc(s, t, k, i), there ? all.get(k).get(i) : -1);
            }
        }
    }

    private static void shortWays(Support.Mirror m, int u, int t, int seen, List<Integer> way, List<List<Integer>> all) {
        if (u == t) {
            all.add(new ArrayList<>(way));
            return;
        }
        for (int p = 0; p < 160 && way.size() < 4; p++) {
            if (m.arcs[p] != null && m.arcs[p][0] == u && (seen >> m.arcs[p][1] & 1) == 0) {
                way.add(p);
                shortWays(m, m.arcs[p][1], t, seen | 1 << m.arcs[p][1], way, all);
                way.remove(way.size() - 1);
            }
        }
    }

    private static int order(Support.Mirror m, List<Integer> a, List<Integer> b) {
        long wa = 0;
        long wb = 0;
        for (int p : a) {
            wa += m.arcs[p][2];
        }
        for (int p : b) {
            wb += m.arcs[p][2];
        }
        if (wa != wb) {
            return Long.compare(wa, wb);
        }
        if (a.size() != b.size()) {
            return a.size() - b.size();
        }
        for (int i = 0; i < a.size(); i++) {
            if (!a.get(i).equals(b.get(i))) {
                return a.get(i) - b.get(i);
            }
        }
        return 0;
    }

    /** What is kept for a version is not told for another one. */
    private static void versions() {
        GraphHouse h = new GraphHouse();
        h.node(0);
        h.node(0);
        h.arc(0, 1, 5, 1, 0);
        Support.due("first", h.distance(0, 1) + " " + h.shorts(0, 1), "5 1");
        h.arc(0, 1, 4, 1, 0);
        Support.due("second", h.distance(0, 1) + " " + h.shorts(0, 1) + " " + h.way(0, 1, 0), "4 2 1");
        h.view(3);
        Support.due("back", h.distance(0, 1) + " " + h.shorts(0, 1) + " " + h.way(0, 1, 0), "5 1 0");
        h.view(2);
        Support.due("further back", h.distance(0, 1) + " " + h.shorts(0, 1), GraphHouse.NO + " 0");
    }

    /** 31 arcs of the least and of the greatest weight, and rings that fall by one or by nothing. */
    private static void longWay() {
        for (int weight : new int[] {-1000000, 1000000}) {
            GraphHouse h = new GraphHouse();
            for (int i = 0; i < 32; i++) {
                h.node(0);
            }
            for (int i = 31; i > 0; i--) {
                h.arc(i - 1, i, weight, i, 0);
            }
            Support.due("distance", h.distance(0, 31), 31L * weight);
            for (int k = 0; k < 32; k++) {
                Support.due("way", h.way(0, 31, k), k < 31 ? 30 - k : -1);
            }
            Support.due("width", h.width(0, 31), 1);
            int back = h.arc(31, 0, weight < 0 ? 1000000 : -1000000, 9, 0);
            Support.due("ring", h.distance(5, 4), weight < 0 ? GraphHouse.FALLING : 30L * weight - 1000000);
            h.set(back, 0, 0);
            Support.due("ring", h.distance(0, 0), weight < 0 ? GraphHouse.FALLING : 0L);
        }
        GraphHouse h = new GraphHouse();
        for (int i = 0; i < 32; i++) {
            h.node(0);
        }
        for (int i = 0; i < 32; i++) {
            h.arc(i, (i + 1) % 32, i % 2 == 0 ? 7 : -7, 1, 0);
        }
        Support.due("a ring of 0 does not fall", h.distance(1, 1) + " " + h.way(1, 1, 0), "0 -1");
        h.set(31, 0, -8);
        Support.due("a ring of -1 falls", h.distance(1, 0), GraphHouse.FALLING);
    }

    private static void tooMany() {
        Support.Mirror m = new Support.Mirror();
        for (int i = 0; i < 5; i++) {
            m.node(0);
        }
        for (int i = 0; i < 10; i++) {
            m.arc(0, 1, 3 - i % 4, 1, 0);
            m.arc(1, 2, i % 3, 1, 0);
            m.arc(2, 3, -i, 1, 0);
        }
        m.arc(3, 4, 1, 1, 0);
        m.arc(3, 4, 0, 1, 0);
        Support.due("2000", m.h.shorts(0, 4), 2000);
        compareShort(m, 0, 4, "2000 ways: ");
        Support.due("the last one", m.h.shortArc(0, 4, 1999, 3), 30);
        Support.due("none behind", m.h.shortArc(0, 4, 2000, 0), -1);
        m.arc(0, 4, 0, 0, 0);
        Support.due("2001", m.h.shorts(0, 4), GraphHouse.MANY);
        Support.due("none of too many", m.h.shortArc(0, 4, 0, 0), -1);
        Support.due("others can be told", m.h.shorts(0, 3) + " " + m.h.shortArc(0, 3, 0, 0), "1000 9");
    }

    private static void deadEnds() {
        Support.Mirror m = new Support.Mirror();
        for (int i = 0; i < 6; i++) {
            m.node(0);
        }
        for (int i = 0; i < 50; i++) {
            m.arc(0, 1, 0, 1, 0);
            m.arc(1, 2, 0, 1, 0);
            m.arc(2, 3, 0, 1, 0);
        }
        m.arc(3, 4, 0, 1, 0);
        m.arc(4, 5, 0, 1, 0);
        m.arc(2, 0, 0, 1, 0);
        Support.due("five arcs are too far", m.h.shorts(0, 5), 0);
        m.arc(0, 5, 0, 1, 0);
        Support.due("not by the beginning", m.h.shorts(0, 5), 1);
        Support.due("too many", m.h.shorts(0, 4), GraphHouse.MANY);
        compareShort(m, 1, 5, "dead ends: ");
    }
}
