import java.util.ArrayList;
import java.util.Arrays;
import java.util.List;

/** Promises 24 to 30 and 42: parts, bridges, cuts, orders, cores, cliques, colourings, figures. */
public final class PartsTest {
    public static void main(String[] args) {
        edges();
        for (int seed = 0; seed < 1200; seed++) {
            Support.Dice d = new Support.Dice(seed);
            Support.Mirror m = Support.byDice(d, d.from(1, 8), d.below(22), -3, 3, 3);
            parts(m);
            order(m);
            cores(m);
            cliques(m);
            colours(m);
            figures(m);
        }
        for (int seed = 0; seed < 25; seed++) {
            Support.Dice d = new Support.Dice(seed);
            Support.Mirror m = Support.byDice(d, d.from(20, 32), d.from(25, 160), -3, 3, 3);
            parts(m);
            bigClique(m);
            bigCores(m);
            figures(m);
        }
        orders();
        bigColours();
        fullGraph();
        Support.finish("PartsTest");
    }

    private static void edges() {
        GraphHouse h = new GraphHouse();
        Support.due("empty", h.order(0) + " " + h.clique(0) + " " + h.figures(0) + " " + h.figures(1), "-1 -1 0 0");
        Support.illegal("order -1", () -> h.order(-1));
        Support.illegal("clique -1", () -> h.clique(-1));
        Support.illegal("figures -1", () -> h.figures(-1));
        Support.illegal("figures 2", () -> h.figures(2));
        h.node(0);
        for (int v : new int[] {-1, 1, Integer.MAX_VALUE}) {
            Support.illegal("part", () -> h.part(0, v));
            Support.illegal("part", () -> h.part(1, v));
            Support.illegal("cut", () -> h.cut(v));
            Support.illegal("core", () -> h.core(v));
            Support.illegal("colour", () -> h.colour(v));
            Support.illegal("bridge", () -> h.bridge(v));
        }
        Support.illegal("sort 2", () -> h.part(2, 0));
        Support.illegal("sort -1", () -> h.part(-1, 0));
        Support.illegal("no arc", () -> h.bridge(0));
        Support.due("one node", h.part(0, 0) + " " + h.part(1, 0) + " " + h.cut(0) + " " + h.order(0) + " " + h.order(1)
            + " " + h.core(0) + " " + h.clique(0) + " " + h.clique(1) + " " + h.colour(0), "0 0 false 0 -1 0 0 -1 0");
        h.arc(0, 0, 0, 0, 0);
        Support.due("a loop", h.bridge(0) + " " + h.order(0) + " " + h.core(0) + " " + h.colour(0) + " " + h.clique(1),
            "false -1 0 0 -1");
        Support.due("far k", h.order(Integer.MAX_VALUE) + " " + h.clique(Integer.MAX_VALUE), "-1 -1");
        h.view(1);
        Support.due("order of the version before", h.order(0), 0);
    }

    private static boolean[][] reach(Support.Mirror m, boolean directed, int withoutArc, int withoutNode) {
        int n = m.n();
        boolean[][] r = new boolean[n][n];
        for (int i = 0; i < n; i++) {
            r[i][i] = true;
        }
        for (int p = 0; p < 160; p++) {
            int[] a = m.arcs[p];
            if (a != null && p != withoutArc && a[0] != withoutNode && a[1] != withoutNode) {
                r[a[0]][a[1]] = true;
                r[a[1]][a[0]] |= !directed;
            }
        }
        for (int k = 0; k < n; k++) {
            for (int i = 0; i < n; i++) {
                for (int j = 0; j < n; j++) {
                    r[i][j] |= r[i][k] && r[k][j];
                }
            }
        }
        return r;
    }

    private static int weakParts(Support.Mirror m, int withoutArc, int withoutNode) {
        boolean[][] r = reach(m, false, withoutArc, withoutNode);
        int count = 0;
        for (int v = 0; v < m.n(); v++) {
            boolean first = v != withoutNode;
            for (int u = 0; u < v; u++) {
                first &= !r[u][v];
            }
            count += first ? 1 : 0;
        }
        return count;
    }

    private static void parts(Support.Mirror m) {
        String what = m + " ";
        boolean[][] strong = reach(m, true, -1, -1);
        boolean[][] weak = reach(m, false, -1, -1);
        int count = weakParts(m, -1, -1);
        for (int v = 0; v < m.n(); v++) {
            int s = 0;
            while (!strong[s][v] || !strong[v][s]) {
                s++;
            }
            int w = 0;
            while (!weak[w][v]) {
                w++;
            }
            Support.due(what + "strong part of " + v, m.h.part(0, v), s);
            Support.due(what + "weak part of " + v, m.h.part(1, v), w);
            Support.due(what + "cut " + v, m.h.cut(v), weakParts(m, -1, v) > count);
        }
        for (int p = 0; p < 160; p++) {
            if (m.arcs[p] != null) {
                Support.due(what + "bridge " + p, m.h.bridge(p), weakParts(m, p, -1) > count);
            }
        }
    }

    private static void order(Support.Mirror m) {
        List<Integer> taken = new ArrayList<>();
        boolean found = true;
        while (found) {
            found = false;
            for (int v = 0; v < m.n() && !found; v++) {
                boolean free = !taken.contains(v);
                for (int[] a : m.arcs) {
                    free &= a == null || a[1] != v || taken.contains(a[0]);
                }
                if (free) {
                    taken.add(v);
                    found = true;
                }
            }
        }
        for (int k = 0; k <= m.n(); k++) {
            boolean there = taken.size() == m.n() && k < m.n();
            Support.due(m + " order " + k, m.h.order(k), there ? taken.get(k) : -1);
        }
    }

    private static void cores(Support.Mirror m) {
        int[] best = new int[m.n()];
        for (int set = 1; set < 1 << m.n(); set++) {
            int least = Integer.MAX_VALUE;
            for (int u = 0; u < m.n(); u++) {
                int degree = 0;
                for (int v = 0; v < m.n(); v++) {
                    degree += u != v && (set >> v & 1) != 0 ? m.between(u, v) : 0;
                }
                least = (set >> u & 1) != 0 ? Math.min(least, degree) : least;
            }
            for (int u = 0; u < m.n(); u++) {
                best[u] = (set >> u & 1) != 0 ? Math.max(best[u], least) : best[u];
            }
        }
        for (int u = 0; u < m.n(); u++) {
            Support.due(m + " core " + u, m.h.core(u), best[u]);
        }
    }

    private static void cliques(Support.Mirror m) {
        int best = 0;
        for (int set = 1; set < 1 << m.n(); set++) {
            boolean all = true;
            for (int u = 0; u < m.n(); u++) {
                for (int v = 0; v < u; v++) {
                    all &= (set >> u & 1) == 0 || (set >> v & 1) == 0 || m.near(u, v);
                }
            }
            int differ = set ^ best;
            boolean greater = Integer.bitCount(set) > Integer.bitCount(best);
            boolean same = Integer.bitCount(set) == Integer.bitCount(best);
            best = all && (greater || same && (differ & -differ & set) != 0) ? set : best;
        }
        for (int k = 0; k <= m.n(); k++) {
            int want = -1;
            int seen = 0;
            for (int v = 0; v < m.n(); v++) {
                if ((best >> v & 1) != 0) {
                    want = seen == k ? v : want;
                    seen++;
                }
            }
            Support.due(m + " clique " + k, m.h.clique(k), want);
        }
    }

    /** All cliques, one by one. */
    private static void bigClique(Support.Mirror m) {
        List<Integer> best = new ArrayList<>();
        allCliques(m, 0, new ArrayList<>(), best);
        List<Integer> got = new ArrayList<>();
        for (int k = 0; m.h.clique(k) >= 0; k++) {
            got.add(m.h.clique(k));
        }
        Support.due(m + " clique", got, best);
    }

    private static void allCliques(Support.Mirror m, int from, List<Integer> now, List<Integer> best) {
        if (now.size() > best.size() || now.size() == best.size() && now.toString().compareTo(best.toString()) != 0
            && isBefore(now, best)) {
            best.clear();
            best.addAll(now);
        }
        for (int v = from; v < m.n(); v++) {
            boolean all = true;
            for (int u : now) {
                all &= m.near(u, v);
            }
            if (all) {
                now.add(v);
                allCliques(m, v + 1, now, best);
                now.remove(now.size() - 1);
            }
        }
    }

    private static boolean isBefore(List<Integer> a, List<Integer> b) {
        for (int i = 0; i < a.size(); i++) {
            if (!a.get(i).equals(b.get(i))) {
                return a.get(i) < b.get(i);
            }
        }
        return false;
    }

    /** For each k: takes away whatever has fewer than k joints until nothing does. */
    private static void bigCores(Support.Mirror m) {
        int[] best = new int[m.n()];
        for (int k = 1; k <= 160; k++) {
            boolean[] gone = new boolean[m.n()];
            boolean again = true;
            while (again) {
                again = false;
                for (int u = 0; u < m.n(); u++) {
                    int degree = 0;
                    for (int v = 0; v < m.n(); v++) {
                        degree += gone[v] ? 0 : m.between(u, v);
                    }
                    if (!gone[u] && degree < k) {
                        gone[u] = true;
                        again = true;
                    }
                }
            }
            for (int u = 0; u < m.n(); u++) {
                best[u] = gone[u] ? best[u] : k;
            }
        }
        for (int u = 0; u < m.n(); u++) {
            Support.due(m + " core " + u, m.h.core(u), best[u]);
        }
    }

    private static void colours(Support.Mirror m) {
        int[] want = new int[m.n()];
        boolean[][] near = new boolean[m.n()][m.n()];
        for (int u = 0; u < m.n(); u++) {
            for (int v = 0; v < m.n(); v++) {
                near[u][v] = m.near(u, v);
            }
        }
        for (int k = 1; !firstColouring(near, want, 0, k); k++) {
            Arrays.fill(want, 0);
        }
        for (int v = 0; v < m.n(); v++) {
            Support.due(m + " colour " + v, m.h.colour(v), want[v]);
        }
    }

    private static boolean firstColouring(boolean[][] near, int[] colour, int v, int k) {
        if (v == colour.length) {
            return true;
        }
        // a node ahead that has no colour left ends the trying early
        for (int u = v + 1; u < colour.length; u++) {
            int free = (1 << k) - 1;
            for (int w = 0; w < v; w++) {
                free &= near[u][w] ? ~(1 << colour[w]) : -1;
            }
            if (free == 0) {
                return false;
            }
        }
        // the least colouring takes a new colour only as the next one
        int used = 0;
        for (int u = 0; u < v; u++) {
            used = Math.max(used, colour[u] + 1);
        }
        for (int c = 0; c < k && c <= used; c++) {
            boolean free = true;
            for (int u = 0; u < v; u++) {
                free &= !near[u][v] || colour[u] != c;
            }
            if (free) {
                colour[v] = c;
                if (firstColouring(near, colour, v + 1, k)) {
                    return true;
                }
            }
        }
        return false;
    }

    private static void figures(Support.Mirror m) {
        int n = m.n();
        long triangles = 0;
        long squares = 0;
        for (int a = 0; a < n; a++) {
            for (int b = 0; b < n; b++) {
                for (int c = 0; c < n; c++) {
                    boolean path = a != c && m.near(a, b) && m.near(b, c);
                    triangles += path && m.near(c, a) ? 1 : 0;
                    for (int d = 0; path && d < n; d++) {
                        squares += d != a && d != b && m.near(c, d) && m.near(d, a) ? 1 : 0;
                    }
                }
            }
        }
        Support.due(m + " triangles", m.h.figures(0), triangles / 6);
        Support.due(m + " squares", m.h.figures(1), squares / 8);
    }

    /** Graphs without rings, which dice seldom make. */
    private static void orders() {
        for (int seed = 0; seed < 300; seed++) {
            Support.Dice d = new Support.Dice(seed);
            Support.Mirror m = new Support.Mirror();
            int n = d.from(1, 32);
            for (int i = 0; i < n; i++) {
                m.node(0);
            }
            for (int i = d.below(40); i > 0; i--) {
                int u = d.below(n);
                int v = d.below(n);
                if (u * 13 % 37 < v * 13 % 37) {
                    m.arc(u, v, 0, 0, 0);
                }
            }
            order(m);
        }
    }

    /** Up to 32 nodes; plain trying in order still ends where the graph is thin. */
    private static void bigColours() {
        for (int seed = 0; seed < 400; seed++) {
            Support.Dice d = new Support.Dice(seed);
            colours(Support.byDice(d, d.from(9, 14), d.from(10, 60), 0, 1, 1));
            colours(Support.byDice(d, d.from(15, 32), d.from(10, 40), 0, 1, 1));
        }
        GraphHouse h = new GraphHouse();
        for (int i = 0; i < 18; i++) {
            h.node(0);
        }
        for (int i = 0; i < 18; i++) {
            for (int j = 0; j < i; j++) {
                h.arc(i, j, 0, 0, 0);
            }
        }
        Support.due("all of 18", h.clique(17) + " " + h.colour(17) + " " + h.core(3), "17 17 17");
        Support.due("figures of 18", h.figures(0) + " " + h.figures(1), 816 + " " + 3 * 3060);
    }

    private static boolean isStep(int difference, int steps) {
        int d = Math.floorMod(difference, 32);
        return d != 0 && (d <= steps || d >= 32 - steps);
    }

    /** Of a ring of 32 in which each node is joined to so many next ones: all through node 0, then by 32. */
    private static long trianglesOf(int steps) {
        long count = 0;
        for (int a = 1; a < 32; a++) {
            for (int b = 1; b < 32; b++) {
                count += isStep(a, steps) && isStep(b - a, steps) && isStep(b, steps) ? 1 : 0;
            }
        }
        return count * 32 / 6;
    }

    private static long squaresOf(int steps) {
        long count = 0;
        for (int a = 1; a < 32; a++) {
            for (int b = 1; b < 32; b++) {
                for (int c = 1; c < 32; c++) {
                    count += b != a && c != a && c != b && isStep(a, steps) && isStep(b - a, steps) && isStep(c - b, steps)
                        && isStep(c, steps) ? 1 : 0;
                }
            }
        }
        return count * 32 / 8;
    }

    private static void fullGraph() {
        GraphHouse h = new GraphHouse();
        for (int i = 0; i < 32; i++) {
            h.node(0);
        }
        for (int i = 0; i < 160; i++) {
            h.arc(i % 32, (i + 1 + i / 32) % 32, 0, 0, 0);
        }
        Support.due("figures of 32", h.figures(0) + " " + h.figures(1), trianglesOf(5) + " " + squaresOf(5));
        Support.due("ring of 32 with five steps", h.part(0, 31) + " " + h.part(1, 31) + " " + h.core(31) + " "
            + h.clique(5) + " " + h.clique(6) + " " + h.cut(31) + " " + h.bridge(159), "0 0 10 5 -1 false false");
        GraphHouse multi = new GraphHouse();
        multi.node(0);
        multi.node(0);
        for (int i = 0; i < 160; i++) {
            multi.arc(i % 2, 1 - i % 2, 0, 0, 0);
        }
        Support.due("160 joints of two nodes", multi.core(0) + " " + multi.bridge(0) + " " + multi.colour(1), "160 false 1");
        for (int i = 0; i < 159; i++) {
            multi.take(i);
        }
        Support.due("the last one", multi.core(0) + " " + multi.bridge(159), "1 true");
    }
}
