import java.math.BigInteger;
import java.util.ArrayList;
import java.util.List;

/** Promises 31 to 37: flows, sides, costs, pairings, rooted trees, the span and how many trees there are. */
public final class FlowsTest {
    public static void main(String[] args) {
        edges();
        for (int seed = 0; seed < 600; seed++) {
            Support.Dice d = new Support.Dice(seed);
            Support.Mirror m = Support.byDice(d, d.from(1, 7), d.below(20), -5, 5, d.from(0, 12));
            cuts(m);
            rooted(m);
            span(m);
            counts(m);
            pairs(m);
        }
        for (int seed = 0; seed < 600; seed++) {
            Support.Dice d = new Support.Dice(seed);
            costs(Support.byDice(d, d.from(2, 4), d.from(1, 7), -4, 4, 2));
        }
        for (int seed = 0; seed < 25; seed++) {
            Support.Dice d = new Support.Dice(seed);
            span(Support.byDice(d, d.from(20, 32), d.from(25, 160), -3, 3, 3));
        }
        bigFlows();
        bigCosts();
        wideCosts();
        for (int folds = 2; folds <= 39; folds++) {
            foldedCosts(folds);
        }
        bigTrees();
        bigCounts();
        bigPairs();
        greatNumbers();
        Support.finish("FlowsTest");
    }

    private static void edges() {
        GraphHouse h = new GraphHouse();
        Support.due("empty", h.pairing(0) + " " + h.pairing(1) + " " + h.trees(), "0 0 0");
        h.node(0);
        Support.due("one node", h.pairing(0) + " " + h.tree(0) + " " + h.trees(), "0 0 1");
        h.node(13);
        int[][] bad = {{0, 0}, {1, 1}, {-1, 0}, {0, -1}, {2, 0}, {0, 2}};
        for (int[] b : bad) {
            Support.illegal("flow", () -> h.flow(b[0], b[1]));
            Support.illegal("side", () -> h.side(b[0], b[1], 0));
            Support.illegal("cost", () -> h.cost(b[0], b[1], 0));
        }
        Support.illegal("side of -1", () -> h.side(0, 1, -1));
        Support.illegal("side of 2", () -> h.side(0, 1, 2));
        Support.illegal("cost -1", () -> h.cost(0, 1, -1));
        Support.illegal("cost 200000001", () -> h.cost(0, 1, 200000001));
        Support.due("cost 200000000", h.cost(0, 1, 200000000), GraphHouse.NO);
        Support.illegal("pairing -1", () -> h.pairing(-1));
        Support.illegal("pairing 2", () -> h.pairing(2));
        Support.illegal("tree -1", () -> h.tree(-1));
        Support.illegal("tree 2", () -> h.tree(2));
        Support.illegal("span 0", () -> h.span(0));
        Support.illegal("span -1", () -> h.span(-1));
        Support.due("not joined", h.trees() + " " + h.tree(0), "0 " + GraphHouse.NO);
        h.arc(1, 1, -3, 4, 0);
        Support.due("a loop", h.span(0) + " " + h.trees() + " " + h.cost(0, 1, 0) + " " + h.pairing(0), "false 0 -12 0");
        h.arc(0, 1, 2, 5, 0);
        Support.due("an arc", h.span(1) + " " + h.trees() + " " + h.cost(0, 1, 5) + " " + h.pairing(1) + " " + h.tree(0),
            "true 1 -2 2 2");
        Support.due("not against it", h.flow(1, 0) + " " + h.cost(1, 0, 1) + " " + h.tree(1), "0 " + GraphHouse.NO + " " + GraphHouse.NO);
        h.view(3);
        Support.due("the version before", h.trees() + " " + h.pairing(0) + " " + h.flow(0, 1), "0 0 0");
    }

    /** The greatest flow is the least cut; THE SIDE is what all least cuts have in common. */
    private static void cuts(Support.Mirror m) {
        for (int s = 0; s < m.n(); s++) {
            for (int t = 0; t < m.n(); t++) {
                if (s == t) {
                    continue;
                }
                long least = Long.MAX_VALUE;
                int common = -1;
                for (int set = 0; set < 1 << m.n(); set++) {
                    if ((set >> s & 1) == 0 || (set >> t & 1) != 0) {
                        continue;
                    }
                    long sum = 0;
                    for (int[] a : m.arcs) {
                        sum += a != null && (set >> a[0] & 1) != 0 && (set >> a[1] & 1) == 0 ? a[3] : 0;
                    }
                    common = sum < least ? set : sum == least ? common & set : common;
                    least = Math.min(least, sum);
                }
                Support.due(m + " flow " + s + " " + t, m.h.flow(s, t), least);
                for (int v = 0; v < m.n(); v++) {
                    Support.due(m + " side " + s + " " + t + " " + v, m.h.side(s, t, v), (common >> v & 1) != 0);
                }
            }
        }
    }

    /** Great graphs: a second way to the greatest flow, by any ways that are open, and to what is open at the end. */
    private static void bigFlows() {
        for (int seed = 0; seed < 300; seed++) {
            Support.Dice d = new Support.Dice(seed);
            int most = seed % 3 == 0 ? 1 : seed % 3 == 1 ? 4 : 1000000;
            Support.Mirror m = Support.byDice(d, d.from(8, 32), d.from(12, 160), 0, 1, most);
            for (int i = 0; i < 6; i++) {
                int s = i < 3 ? 2 - i : d.below(m.n());
                int t = i < 3 ? 3 : (s + 1 + d.below(m.n() - 1)) % m.n();
                int[][] left = new int[m.n()][m.n()];
                for (int[] a : m.arcs) {
                    if (a != null) {
                        left[a[0]][a[1]] += a[3];
                    }
                }
                long value = 0;
                boolean[] seen = new boolean[m.n()];
                for (int part = carry(left, seen, s, t, Integer.MAX_VALUE); part > 0; part = carry(left, seen, s, t, Integer.MAX_VALUE)) {
                    value += part;
                    seen = new boolean[m.n()];
                }
                Support.due(m + " flow " + s + " " + t, m.h.flow(s, t), value);
                for (int v = 0; v < m.n(); v++) {
                    Support.due(m + " side " + s + " " + t + " " + v, m.h.side(s, t, v), seen[v]);
                }
            }
        }
    }

    /** Goes as deep as can be: how much came to t; what was seen stays seen. */
    private static int carry(int[][] left, boolean[] seen, int u, int t, int most) {
        seen[u] = true;
        if (u == t) {
            return most;
        }
        for (int v = 0; v < left.length; v++) {
            if (!seen[v] && left[u][v] > 0) {
                int part = carry(left, seen, v, t, Math.min(most, left[u][v]));
                if (part > 0) {
                    left[u][v] -= part;
                    left[v][u] += part;
                    return part;
                }
            }
        }
        return 0;
    }

    /** Great graphs: a second way to the rooted tree, by one ring at a time in a table of arcs. */
    private static void bigTrees() {
        for (int seed = 0; seed < 300; seed++) {
            Support.Dice d = new Support.Dice(seed);
            int most = seed % 2 == 0 ? 3 : 1000000;
            Support.Mirror m = Support.byDice(d, d.from(8, 32), d.from(60, 160), -most, most, 1);
            for (int i = 0; i < 4; i++) {
                int root = d.below(m.n());
                long[][] table = new long[m.n()][m.n()];
                for (long[] row : table) {
                    java.util.Arrays.fill(row, GraphHouse.NO);
                }
                for (int[] a : m.arcs) {
                    if (a != null && a[0] != a[1]) {
                        table[a[0]][a[1]] = Math.min(table[a[0]][a[1]], a[2]);
                    }
                }
                Support.due(m + " tree " + root, m.h.tree(root), leastTree(table, root));
            }
        }
    }

    private static long leastTree(long[][] table, int root) {
        int n = table.length;
        int[] before = new int[n];
        for (int v = 0; v < n; v++) {
            before[v] = v == root ? -1 : 0;
            for (int u = 0; u < n && v != root; u++) {
                before[v] = table[u][v] < table[before[v]][v] ? u : before[v];
            }
            if (v != root && table[before[v]][v] == GraphHouse.NO) {
                return GraphHouse.NO;
            }
        }
        List<Integer> ring = ringOf(before);
        if (!ring.isEmpty()) {
            return withoutRing(table, root, before, ring);
        }
        long sum = 0;
        for (int v = 0; v < n; v++) {
            sum += v == root ? 0 : table[before[v]][v];
        }
        return sum;
    }

    private static List<Integer> ringOf(int[] before) {
        for (int v = 0; v < before.length; v++) {
            List<Integer> way = new ArrayList<>();
            for (int x = v; x >= 0 && way.size() <= before.length; x = before[x]) {
                if (x == v && !way.isEmpty()) {
                    return way;
                }
                way.add(x);
            }
        }
        return new ArrayList<>();
    }

    /** The ring becomes the node of its first member; the others of it are cut off, and an arc to it takes one away. */
    private static long withoutRing(long[][] table, int root, int[] before, List<Integer> ring) {
        List<Integer> kept = new ArrayList<>();
        long sum = 0;
        for (int v = 0; v < before.length; v++) {
            if (!ring.contains(v)) {
                kept.add(v);
            } else {
                sum += table[before[v]][v];
            }
        }
        int n = kept.size();
        long[][] less = new long[n + 1][n + 1];
        for (int i = 0; i <= n; i++) {
            for (int j = 0; j <= n; j++) {
                less[i][j] = GraphHouse.NO;
                for (int u : i < n ? List.of(kept.get(i)) : ring) {
                    for (int v : j < n ? List.of(kept.get(j)) : ring) {
                        long saved = j < n ? 0 : table[before[v]][v];
                        boolean there = i != j && table[u][v] != GraphHouse.NO;
                        less[i][j] = there ? Math.min(less[i][j], table[u][v] - saved) : less[i][j];
                    }
                }
            }
        }
        long rest = leastTree(less, kept.indexOf(root));
        return rest == GraphHouse.NO ? rest : rest + sum;
    }

    /** All flows of a small graph, one by one. */
    private static void costs(Support.Mirror m) {
        List<int[]> arcs = new ArrayList<>();
        for (int[] a : m.arcs) {
            if (a != null) {
                arcs.add(a);
            }
        }
        int n = m.n();
        for (int s = 0; s < n; s++) {
            for (int t = 0; t < n; t++) {
                if (s != t) {
                    long[] best = new long[20];
                    java.util.Arrays.fill(best, GraphHouse.NO);
                    allFlows(arcs, 0, new int[n], 0, s, t, best);
                    for (int value = 0; value < best.length; value++) {
                        Support.due(m + " cost " + s + " " + t + " " + value, m.h.cost(s, t, value), best[value]);
                    }
                }
            }
        }
    }

    private static void allFlows(List<int[]> arcs, int i, int[] net, long cost, int s, int t, long[] best) {
        if (i == arcs.size()) {
            boolean good = net[s] >= 0;
            for (int v = 0; v < net.length; v++) {
                good &= v == s || v == t || net[v] == 0;
            }
            if (good) {
                best[net[s]] = Math.min(best[net[s]], cost);
            }
            return;
        }
        int[] a = arcs.get(i);
        for (int f = 0; f <= a[3]; f++) {
            net[a[0]] += f;
            net[a[1]] -= f;
            allFlows(arcs, i + 1, net, cost + (long) f * a[2], s, t, best);
            net[a[0]] -= f;
            net[a[1]] += f;
        }
    }

    /** Great graphs: a second way to the cost, by cancelling rings that fall until none is left. */
    private static void bigCosts() {
        for (int seed = 0; seed < 40; seed++) {
            Support.Dice d = new Support.Dice(seed);
            Support.Mirror m = Support.byDice(d, d.from(5, 32), d.from(20, 160), -20, 60, d.from(1, 15));
            int s = d.below(m.n());
            int t = (s + 1 + d.below(m.n() - 1)) % m.n();
            int most = (int) m.h.flow(s, t);
            for (int value : new int[] {0, most / 2, most}) {
                Support.due(m + " cost " + s + " " + t + " " + value, m.h.cost(s, t, value), byRings(m, s, t, value));
            }
            Support.due("one more", m.h.cost(s, t, most + 1), GraphHouse.NO);
        }
    }

    private static long byRings(Support.Mirror m, int s, int t, int value) {
        int[] flow = new int[160];
        for (int i = 0; i < value; i++) {
            pushOne(m, flow, s, t, false);
        }
        while (pushOne(m, flow, -1, -1, true)) {
            continue;
        }
        long sum = 0;
        for (int p = 0; p < 160; p++) {
            sum += m.arcs[p] == null ? 0 : (long) flow[p] * m.arcs[p][2];
        }
        return sum;
    }

    /** One unit along any way from s to t, or round a ring that falls. */
    private static boolean pushOne(Support.Mirror m, int[] flow, int s, int t, boolean ring) {
        int n = m.n();
        long[] far = new long[n];
        int[] via = new int[n];
        java.util.Arrays.fill(via, -1);
        java.util.Arrays.fill(far, ring ? 0 : Long.MAX_VALUE / 2);
        if (!ring) {
            far[s] = 0;
        }
        int last = -1;
        for (int round = 0; round <= n; round++) {
            last = -1;
            for (int p = 0; p < 160; p++) {
                int[] a = m.arcs[p];
                if (a == null) {
                    continue;
                }
                long price = ring ? a[2] : 1;
                if (flow[p] < a[3] && far[a[0]] + price < far[a[1]]) {
                    far[a[1]] = far[a[0]] + price;
                    via[a[1]] = 2 * p;
                    last = a[1];
                }
                long back = ring ? -a[2] : 1;
                if (flow[p] > 0 && far[a[1]] + back < far[a[0]]) {
                    far[a[0]] = far[a[1]] + back;
                    via[a[0]] = 2 * p + 1;
                    last = a[0];
                }
            }
        }
        if (ring && last < 0) {
            return false;
        }
        int end = ring ? last : t;
        for (int i = 0; ring && i < n; i++) {
            end = before(m, via[end]);
        }
        int v = end;
        do {
            flow[via[v] / 2] += via[v] % 2 == 0 ? 1 : -1;
            v = before(m, via[v]);
        } while (v != (ring ? end : s));
        return true;
    }

    private static int before(Support.Mirror m, int via) {
        return m.arcs[via / 2][via % 2];
    }

    /** Great rooms and weights: a second way to the cost, by the bits of the rooms. */
    private static void wideCosts() {
        int[] rooms = {1, 15, 16, 17, 255, 4096, 65536, 1000000};
        int[] weights = {0, 2, 1000, 1000000};
        for (int seed = 0; seed < 320; seed++) {
            Support.Dice d = new Support.Dice(seed);
            int low = seed % 3 == 0 ? 0 : -weights[seed % 4];
            Support.Mirror m = Support.byDice(d, d.from(2, 32), d.from(20, 160), low, weights[seed % 4], rooms[seed / 4 % 8]);
            int s = d.below(m.n());
            int t = (s + 1 + d.below(m.n() - 1)) % m.n();
            int most = (int) m.h.flow(s, t);
            for (int value : new int[] {most, d.below(most + 1), 0}) {
                Support.due(m + " cost " + s + " " + t + " " + value, m.h.cost(s, t, value), byBits(m, s, t, value));
            }
            Support.due("one more", m.h.cost(s, t, most + 1), GraphHouse.NO);
        }
    }

    /**
     * Rooms grow from none by their bits, from the highest on: all is doubled, then each arc with that bit gets room
     * for one more, which goes round where that earns. That the value flows earns more than all else: an arc back from t to s.
     */
    private static long byBits(Support.Mirror m, int s, int t, int value) {
        long earned = 100000000L;
        List<long[]> arcs = new ArrayList<>();
        arcs.add(new long[] {t, s, -earned, value, 0, 0});
        for (int[] a : m.arcs) {
            if (a != null) {
                arcs.add(new long[] {a[0], a[1], a[2], a[3], 0, 0});
            }
        }
        for (int bit = 30; bit >= 0; bit--) {
            for (long[] a : arcs) {
                a[4] *= 2;
                a[5] *= 2;
            }
            for (long[] a : arcs) {
                if ((a[3] >> bit & 1) != 0) {
                    a[4]++;
                    goRound(arcs, a, m.n());
                }
            }
        }
        long sum = earned * value;
        for (long[] a : arcs) {
            sum += a[2] * a[5];
        }
        return sum;
    }

    /** One unit along the arc and back to its begin by the cheapest way, if that earns; of an arc 4 is its room now, 5 its flow. */
    private static void goRound(List<long[]> arcs, long[] one, int n) {
        long[] far = new long[n];
        long[][] via = new long[n][];
        java.util.Arrays.fill(far, Long.MAX_VALUE / 2);
        far[(int) one[1]] = 0;
        for (boolean again = true; again;) {
            again = false;
            for (long[] a : arcs) {
                int u = (int) a[0];
                int v = (int) a[1];
                if (a != one && a[5] < a[4] && far[u] < Long.MAX_VALUE / 4 && far[u] + a[2] < far[v]) {
                    far[v] = far[u] + a[2];
                    via[v] = a;
                    again = true;
                }
                if (a[5] > 0 && far[v] < Long.MAX_VALUE / 4 && far[v] - a[2] < far[u]) {
                    far[u] = far[v] - a[2];
                    via[u] = a;
                    again = true;
                }
            }
        }
        int v = (int) one[0];
        if (far[v] + one[2] >= 0 || far[v] >= Long.MAX_VALUE / 4) {
            return;
        }
        one[5]++;
        while (v != one[1]) {
            boolean along = via[v][1] == v;
            via[v][5] += along ? 1 : -1;
            v = (int) via[v][along ? 0 : 1];
        }
    }

    /**
     * Each layer goes through the one inside it forth and back again, as often as there are folds, and the weights are
     * such that each unit costs one more than the one before it, the first nothing: as many ways as there are units.
     */
    private static void foldedCosts(int folds) {
        Support.Dice d = new Support.Dice(folds);
        List<int[]> arcs = new ArrayList<>();
        int n = 2;
        int all = 1;
        arcs.add(new int[] {0, 1, 0, 1});
        for (; n < 30 && all <= 1000000 && all * (folds / 2) < 900000 && arcs.size() + 2 * folds <= 157; n += 2) {
            for (int j = 0; j < folds; j++) {
                boolean forth = j % 2 == 0;
                int first = all * ((j + 1) / 2) - (forth ? 0 : 1);
                arcs.add(new int[] {n, forth ? n - 2 : n - 1, first, all});
                arcs.add(new int[] {forth ? n - 1 : n - 2, n + 1, forth ? first : all * ((j + 1) / 2), all});
            }
            all *= folds;
        }
        int[] heights = new int[n];
        for (int v = 0; v < n && folds % 3 != 2; v++) {
            heights[v] = d.below(100000);
        }
        Support.Mirror m = new Support.Mirror();
        for (int v = 0; v < n; v++) {
            m.node(0);
        }
        for (int[] a : arcs) {
            m.arc(a[0], a[1], a[2] + heights[a[1]] - heights[a[0]], a[3], 0);
        }
        long up = heights[n - 1] - heights[n - 2];
        Support.due(folds + " folds", m.h.flow(n - 2, n - 1), all);
        for (int value : new int[] {0, 1, all / 3, d.below(all), all - 1, all}) {
            Support.due(folds + " folds, " + value, m.h.cost(n - 2, n - 1, value), value * (value - 1L) / 2 + up * value);
        }
        Support.due(folds + " folds, one more", m.h.cost(n - 2, n - 1, all + 1), GraphHouse.NO);
        foldedRings(m, n, all, up);
    }

    /** An arc back earns as long as a unit costs less; the value itself goes elsewhere. */
    private static void foldedRings(Support.Mirror m, int n, int all, long up) {
        int back = Math.min(1000000, Math.max(1, all / 7 * 5));
        m.node(0);
        m.node(0);
        m.arc(n, n + 1, 3, 10, 0);
        m.arc(n - 1, n - 2, (int) Math.max(-1000000, -back - up), 1000000, 0);
        long earned = Math.min(1000000, back + up) - up;
        long units = Math.min(Math.min(all, 1000000), earned);
        Support.due(m + " rings", m.h.cost(n, n + 1, 7), 21 + units * (units - 1) / 2 - units * earned);
    }

    private static void pairs(Support.Mirror m) {
        long[] best = new long[10];
        java.util.Arrays.fill(best, GraphHouse.NO);
        allPairs(m, 0, 0, 0, 0, best);
        int most = 0;
        while (best[most + 1] != GraphHouse.NO) {
            most++;
        }
        Support.due(m + " pairing", m.h.pairing(0) + " " + m.h.pairing(1), most + " " + best[most]);
    }

    private static void allPairs(Support.Mirror m, int p, int used, int count, long sum, long[] best) {
        if (p == 160) {
            best[count] = Math.min(best[count], sum);
            return;
        }
        int[] a = m.arcs[p];
        allPairs(m, p + 1, used, count, sum, best);
        if (a != null && a[0] != a[1] && (m.labels.get(a[0]) < 13) != (m.labels.get(a[1]) < 13)
            && (used >> a[0] & 1) == 0 && (used >> a[1] & 1) == 0) {
            allPairs(m, p + 1, used | 1 << a[0] | 1 << a[1], count + 1, sum + a[2], best);
        }
    }

    /** 16 and 16 nodes: the least sum by going through all sets of right nodes. */
    private static void bigPairs() {
        for (int seed = 0; seed < 20; seed++) {
            Support.Dice d = new Support.Dice(seed);
            Support.Mirror m = new Support.Mirror();
            for (int i = 0; i < 32; i++) {
                m.node(i % 2 == 0 ? d.below(13) : 13 + d.below(13));
            }
            int arcs = d.from(20, 160);
            long[][] price = new long[16][16];
            for (long[] row : price) {
                java.util.Arrays.fill(row, GraphHouse.NO);
            }
            for (int i = 0; i < arcs; i++) {
                int u = d.below(16);
                int v = d.below(16);
                int w = d.from(-1000, 1000);
                if (d.below(2) == 0) {
                    m.arc(2 * u, 2 * v + 1, w, 0, 0);
                } else {
                    m.arc(2 * v + 1, 2 * u, w, 0, 0);
                }
                price[u][v] = Math.min(price[u][v], w);
            }
            long[] best = new long[1 << 16];
            java.util.Arrays.fill(best, GraphHouse.NO);
            best[0] = 0;
            for (int u = 0; u < 16; u++) {
                for (int set = (1 << 16) - 1; set >= 0; set--) {
                    for (int v = 0; v < 16; v++) {
                        if ((set >> v & 1) != 0 && price[u][v] != GraphHouse.NO && best[set ^ 1 << v] != GraphHouse.NO) {
                            best[set] = Math.min(best[set], best[set ^ 1 << v] + price[u][v]);
                        }
                    }
                }
            }
            int most = 0;
            long sum = 0;
            for (int set = 0; set < 1 << 16; set++) {
                int count = Integer.bitCount(set);
                if (best[set] != GraphHouse.NO && (count > most || count == most && best[set] < sum)) {
                    most = count;
                    sum = best[set];
                }
            }
            Support.due(m + " pairing", m.h.pairing(0) + " " + m.h.pairing(1), most + " " + sum);
        }
    }

    private static void rooted(Support.Mirror m) {
        for (int root = 0; root < m.n(); root++) {
            Support.due(m + " tree " + root, m.h.tree(root), leastTree(m, root, 0, new int[m.n()]));
        }
    }

    private static long leastTree(Support.Mirror m, int root, int v, int[] before) {
        if (v == m.n()) {
            for (int x = 0; x < m.n(); x++) {
                int y = x;
                for (int i = 0; i < m.n() && y != root; i++) {
                    y = before[y];
                }
                if (y != root) {
                    return GraphHouse.NO;
                }
            }
            return 0;
        }
        if (v == root) {
            return leastTree(m, root, v + 1, before);
        }
        long best = GraphHouse.NO;
        for (int u = 0; u < m.n(); u++) {
            long least = GraphHouse.NO;
            for (int[] a : m.arcs) {
                least = a != null && a[0] == u && a[1] == v ? Math.min(least, a[2]) : least;
            }
            if (u != v && least != GraphHouse.NO) {
                before[v] = u;
                long rest = leastTree(m, root, v + 1, before);
                best = rest == GraphHouse.NO ? best : Math.min(best, rest + least);
            }
        }
        return best;
    }

    private static void span(Support.Mirror m) {
        List<Integer> places = new ArrayList<>();
        for (int p = 0; p < 160; p++) {
            if (m.joint(p)) {
                places.add(p);
            } else if (m.arcs[p] != null) {
                Support.due(m + " span of a loop " + p, m.h.span(p), false);
            }
        }
        places.sort((p, q) -> m.arcs[p][2] != m.arcs[q][2] ? m.arcs[p][2] - m.arcs[q][2] : p - q);
        int[] part = new int[m.n()];
        for (int v = 0; v < m.n(); v++) {
            part[v] = v;
        }
        for (int p : places) {
            int a = part[m.arcs[p][0]];
            int b = part[m.arcs[p][1]];
            Support.due(m + " span " + p, m.h.span(p), a != b);
            for (int v = 0; v < m.n(); v++) {
                part[v] = part[v] == b ? a : part[v];
            }
        }
    }

    /** By taking a joint away, or drawing its two nodes together. */
    private static void counts(Support.Mirror m) {
        if (m.n() > 5) {
            return;
        }
        List<int[]> joints = new ArrayList<>();
        for (int p = 0; p < 160; p++) {
            if (m.joint(p)) {
                joints.add(m.arcs[p]);
            }
        }
        int[] part = new int[m.n()];
        for (int v = 0; v < m.n(); v++) {
            part[v] = v;
        }
        Support.due(m + " trees", m.h.trees(), sets(joints, 0, part, m.n() - 1));
    }

    private static long sets(List<int[]> joints, int i, int[] part, int missing) {
        if (missing == 0) {
            return 1;
        }
        if (i == joints.size()) {
            return 0;
        }
        long count = sets(joints, i + 1, part, missing);
        int a = part[joints.get(i)[0]];
        int b = part[joints.get(i)[1]];
        if (a != b) {
            int[] drawn = part.clone();
            for (int v = 0; v < drawn.length; v++) {
                drawn[v] = drawn[v] == b ? a : drawn[v];
            }
            count += sets(joints, i + 1, drawn, missing - 1);
        }
        return count;
    }

    /** The determinant in whole numbers, without a modulus till the end. */
    private static void bigCounts() {
        for (int seed = 0; seed < 60; seed++) {
            Support.Dice d = new Support.Dice(seed);
            Support.Mirror m = Support.byDice(d, d.from(2, 32), d.from(30, 160), -3, 3, 3);
            int n = m.n() - 1;
            BigInteger[][] a = new BigInteger[n][n];
            for (int i = 0; i < n; i++) {
                int degree = 0;
                for (int j = 0; j <= n; j++) {
                    degree += m.between(i, j);
                    if (j < n) {
                        a[i][j] = BigInteger.valueOf(-m.between(i, j));
                    }
                }
                a[i][i] = BigInteger.valueOf(degree);
            }
            Support.due(m + " trees", m.h.trees(), determinant(a).mod(BigInteger.valueOf(1000000007L)));
        }
        GraphHouse h = new GraphHouse();
        for (int i = 0; i < 18; i++) {
            h.node(0);
            for (int j = 0; j < i; j++) {
                h.arc(i, j, 0, 0, 0);
            }
        }
        Support.due("18 to the 16th", h.trees(), BigInteger.valueOf(18).pow(16).mod(BigInteger.valueOf(1000000007L)));
    }

    private static BigInteger determinant(BigInteger[][] a) {
        int n = a.length;
        BigInteger before = BigInteger.ONE;
        for (int k = 0; k < n - 1; k++) {
            if (a[k][k].signum() == 0) {
                return BigInteger.ZERO;
            }
            for (int i = k + 1; i < n; i++) {
                for (int j = k + 1; j < n; j++) {
                    a[i][j] = a[i][j].multiply(a[k][k]).subtract(a[i][k].multiply(a[k][j])).divide(before);
                }
            }
            before = a[k][k];
        }
        return n == 0 ? BigInteger.ONE : a[n - 1][n - 1];
    }

    private static void greatNumbers() {
        GraphHouse h = new GraphHouse();
        for (int i = 0; i < 32; i++) {
            h.node(i % 26);
        }
        for (int i = 0; i < 160; i++) {
            h.arc(0, 1, i % 2 == 0 ? 1000000 : -1000000, 1000000, 0);
        }
        Support.due("flow", h.flow(0, 1), 160000000L);
        Support.due("all", h.cost(0, 1, 160000000), 0L);
        Support.due("half", h.cost(0, 1, 80000000), -80000000000000L);
        Support.due("too much", h.cost(0, 1, 160000001), GraphHouse.NO);
        Support.due("back is nothing", h.cost(1, 0, 0), 0L);
        for (int i = 0; i < 160; i++) {
            h.take(i);
        }
        for (int i = 0; i < 31; i++) {
            h.arc(i, i + 1, -1000000, 1000000, 0);
        }
        h.arc(31, 0, -1000000, 999999, 0);
        Support.due("a ring", h.cost(0, 31, 0), -32L * 999999000000L);
        Support.due("a ring and a way", h.cost(0, 31, 1), -32L * 999999000000L - 31000000L);
        Support.due("tree", h.tree(0) + " " + h.tree(31), "-31000000 -31000000");
        Support.due("trees", h.trees(), 32);
    }
}
