import java.math.BigInteger;

/** Promises 38 to 41: ranks, shortest walks, groups and their gain. (42, the figures, is in PartsTest.) */
public final class RanksTest {
    private static final BigInteger PRIME = BigInteger.valueOf(1000000007L);

    public static void main(String[] args) {
        edges();
        for (int seed = 0; seed < 1500; seed++) {
            Support.Dice d = new Support.Dice(seed);
            Support.Mirror m = Support.byDice(d, d.from(1, 9), d.below(26), -3, 3, 3);
            ranks(m, d);
            shortest(m);
            groups(m);
        }
        for (int seed = 0; seed < 150; seed++) {
            Support.Dice d = new Support.Dice(seed);
            Support.Mirror m = Support.byDice(d, d.from(10, 32), d.from(20, 160), -3, 3, 3);
            ranks(m, d);
            groups(m);
        }
        ladders();
        Support.finish("RanksTest");
    }

    private static void edges() {
        GraphHouse h = new GraphHouse();
        Support.due("empty", h.gain(), 0);
        Support.illegal("no node", () -> h.rank(0, 0));
        Support.illegal("no node", () -> h.group(0));
        h.node(0);
        Support.due("one node", h.rank(0, 40) + " " + h.group(0) + " " + h.gain(), "1000000000000 0 0");
        Support.illegal("rounds -1", () -> h.rank(0, -1));
        Support.illegal("rounds 41", () -> h.rank(0, 41));
        Support.illegal("node -1", () -> h.rank(-1, 0));
        Support.illegal("node 1", () -> h.rank(1, 0));
        Support.illegal("group -1", () -> h.group(-1));
        Support.illegal("group 1", () -> h.group(1));
        int[][] bad = {{-1, 0, 0, 0}, {1, 0, 0, 0}, {0, -1, 0, 0}, {0, 1, 0, 0}, {0, 0, -1, 0}, {0, 0, 3, 0}, {0, 0, 0, -1}, {0, 0, 0, 1}};
        for (int[] b : bad) {
            Support.illegal("shortest", () -> h.shortest(b[0], b[1], b[2], b[3]));
        }
        Support.due("to itself", h.shortest(0, 0, 0, 0) + " " + h.shortest(0, 0, 1, 0) + " " + h.shortest(0, 0, 2, 0), "0 1 1");
        h.node(0);
        Support.due("by another one", h.shortest(0, 0, 2, 1), 0);
        Support.due("none", h.shortest(0, 1, 0, 0) + " " + h.shortest(0, 1, 1, 0) + " " + h.shortest(0, 1, 2, 0), "-1 0 0");
        h.node(0);
        Support.due("what is left over", h.rank(0, 1) + " " + h.rank(1, 1) + " " + h.rank(2, 1), "1000000000000 1000000000000 1000000000000");
        h.arc(0, 1, 0, 0, 0);
        h.arc(0, 1, 0, 0, 0);
        h.arc(0, 0, 0, 0, 0);
        // 283333333333 along each of three, 2150000000001 into the pot: 716666666667 each
        Support.due("rounding", h.rank(0, 1) + " " + h.rank(1, 1) + " " + h.rank(2, 1), "1000000000000 1283333333333 716666666667");
        Support.due("pairs of joints", h.shortest(0, 1, 1, 0), 2);
        Support.due("group of joined", h.group(1) + " " + h.group(2) + " " + h.gain(), "0 2 8");
        Support.due("rounds back", h.rank(1, 0) + " " + h.rank(1, 2) + " " + h.rank(1, 1), "1000000000000 "
            + rankOf(h, 2) + " 1283333333333");
        h.view(3);
        Support.due("the version before", h.rank(1, 1) + " " + h.group(1), "1000000000000 1");
    }

    private static long rankOf(GraphHouse h, int rounds) {
        GraphHouse other = new GraphHouse();
        Support.retype(other, Support.printOf(h));
        other.load();
        return other.rank(1, rounds);
    }

    private static void ranks(Support.Mirror m, Support.Dice d) {
        int n = m.n();
        BigInteger[] units = new BigInteger[n];
        java.util.Arrays.fill(units, BigInteger.TEN.pow(12));
        int[] outs = new int[n];
        for (int[] a : m.arcs) {
            if (a != null) {
                outs[a[0]]++;
            }
        }
        int rounds = d.below(41);
        for (int r = 0; r < rounds; r++) {
            BigInteger[] next = new BigInteger[n];
            java.util.Arrays.fill(next, BigInteger.ZERO);
            BigInteger pot = BigInteger.ZERO;
            for (BigInteger u : units) {
                pot = pot.add(u);
            }
            for (int[] a : m.arcs) {
                if (a != null) {
                    BigInteger part = units[a[0]].multiply(BigInteger.valueOf(85)).divide(BigInteger.valueOf(100L * outs[a[0]]));
                    next[a[1]] = next[a[1]].add(part);
                    pot = pot.subtract(part);
                }
            }
            BigInteger[] shared = pot.divideAndRemainder(BigInteger.valueOf(n));
            for (int v = 0; v < n; v++) {
                next[v] = next[v].add(shared[0]).add(v < shared[1].intValue() ? BigInteger.ONE : BigInteger.ZERO);
            }
            units = next;
        }
        for (int v = 0; v < n; v++) {
            Support.due(m + " rank " + v + " " + rounds, m.h.rank(v, rounds), units[v]);
        }
    }

    /** How many walks of k arcs go from s to t, not by a node (or by any, for -1). */
    private static BigInteger walks(Support.Mirror m, int s, int t, int k, int without) {
        BigInteger[] now = new BigInteger[m.n()];
        java.util.Arrays.fill(now, BigInteger.ZERO);
        now[s] = s == without ? BigInteger.ZERO : BigInteger.ONE;
        for (int i = 0; i < k; i++) {
            BigInteger[] next = new BigInteger[m.n()];
            java.util.Arrays.fill(next, BigInteger.ZERO);
            for (int[] a : m.arcs) {
                if (a != null && a[1] != without) {
                    next[a[1]] = next[a[1]].add(now[a[0]]);
                }
            }
            now = next;
        }
        return now[t];
    }

    private static void shortest(Support.Mirror m) {
        for (int s = 0; s < m.n(); s++) {
            for (int t = 0; t < m.n(); t++) {
                int k = 0;
                while (k <= m.n() && walks(m, s, t, k, -1).signum() == 0) {
                    k++;
                }
                boolean none = k > m.n();
                BigInteger all = none ? BigInteger.ZERO : walks(m, s, t, k, -1);
                Support.due(m + " shortest " + s + " " + t, m.h.shortest(s, t, 0, 0), none ? -1 : k);
                Support.due(m + " how many " + s + " " + t, m.h.shortest(s, t, 1, 0), all.mod(PRIME));
                for (int v = 0; v < m.n(); v++) {
                    BigInteger by = none ? BigInteger.ZERO : all.subtract(walks(m, s, t, k, v));
                    Support.due(m + " by " + s + " " + t + " " + v, m.h.shortest(s, t, 2, v), by.mod(PRIME));
                }
            }
        }
    }

    private static long gain(Support.Mirror m, int[] group) {
        int n = m.n();
        long joints = m.joints();
        long[] degree = new long[n];
        for (int u = 0; u < n; u++) {
            for (int v = 0; v < n; v++) {
                degree[u] += m.between(u, v);
            }
        }
        long sum = 0;
        for (int u = 0; u < n; u++) {
            for (int v = 0; v < n; v++) {
                if (u != v && group[u] == group[v]) {
                    sum += 2 * joints * m.between(u, v) - degree[u] * degree[v];
                }
            }
        }
        return sum;
    }

    /** Each move is tried, and the whole gain is told anew. */
    private static void groups(Support.Mirror m) {
        int n = m.n();
        int[] group = new int[n];
        for (int v = 0; v < n; v++) {
            group[v] = v;
        }
        boolean moved = true;
        for (int round = 0; round < 20 && moved; round++) {
            moved = false;
            for (int v = 0; v < n; v++) {
                int old = group[v];
                long best = gain(m, group);
                int to = old;
                // other groups by their least members, then alone as a group that none has
                java.util.List<Integer> tried = new java.util.ArrayList<>();
                for (int u = 0; u < n; u++) {
                    int g = group[u];
                    boolean beside = false;
                    for (int w = 0; w < n; w++) {
                        beside |= w != v && group[w] == g && m.near(v, w);
                    }
                    if (u != v && g != old && beside && !tried.contains(g)) {
                        tried.add(g);
                    }
                }
                tried.add(1000 + round * 100 + v);
                for (int g : tried) {
                    group[v] = g;
                    long now = gain(m, group);
                    if (now > best) {
                        best = now;
                        to = g;
                    }
                }
                group[v] = to;
                moved |= to != old;
            }
        }
        for (int v = 0; v < n; v++) {
            int least = 0;
            while (group[least] != group[v]) {
                least++;
            }
            Support.due(m + " group " + v, m.h.group(v), least);
        }
        Support.due(m + " gain", m.h.gain(), gain(m, group));
    }

    /** Numbers of walks that run over the modulus. */
    private static void ladders() {
        Support.Mirror m = new Support.Mirror();
        for (int i = 0; i < 32; i++) {
            m.node(0);
        }
        for (int i = 0; i < 155; i++) {
            m.arc(i % 31, i % 31 + 1, 0, 0, 0);
        }
        BigInteger all = BigInteger.valueOf(5).modPow(BigInteger.valueOf(31), PRIME);
        Support.due("5 to the 31st", m.h.shortest(0, 31, 0, 0) + " " + m.h.shortest(0, 31, 1, 0), "31 " + all);
        Support.due("all of them", m.h.shortest(0, 31, 2, 0) + " " + m.h.shortest(0, 31, 2, 16) + " " + m.h.shortest(0, 31, 2, 31),
            all + " " + all + " " + all);
    }
}
