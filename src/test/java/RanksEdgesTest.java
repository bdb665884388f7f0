import java.math.BigInteger;
import java.util.ArrayList;
import java.util.List;

/** The boundary cases of promises 38 to 41, and of what the terms say of ranks and groups: sentence by sentence. */
public final class RanksEdgesTest {
    private static final int NONE = GraphHouse.NONE;
    private static final long UNITS = 1000000000000L;
    /** Joints between 31 nodes that need more than 20 rounds till none moves. */
    private static final String SLOW = "7-2 23-10 16-15 1-3 24-1 13-9 11-25 28-18 16-25 14-16 28-3 4-3 24-13 14-5 9-12 11-2 11-16 29-0 "
        + "15-25 13-27 19-11 21-12 14-5 26-18 27-23 10-18 10-2 14-15 30-6 0-17 28-22 17-25 13-11 15-30 8-13 7-8 19-30 30-7 27-13 "
        + "26-28 27-10 17-25 10-18 13-10 27-10 7-27 11-24 18-11 6-21 0-9 8-13 29-21 25-14 1-7 4-24";

    public static void main(String[] args) {
        Sentences doc = new Sentences(args);
        terms(doc);
        calls(doc);
        doc.finish("RanksEdgesTest", 38, 41, "RANKS", "SHORTEST", "GROUPS");
    }

    private static void terms(Sentences doc) {
        int terms = Sentences.TERMS;
        doc.test(terms, "At first each node has 1000000000000 units", RanksEdgesTest::atFirst);
        doc.test(terms, "each node with a number of arcs out (loops too) sends along each of them", RanksEdgesTest::loopsSend);
        doc.test(terms, "its units times 85 by 100 times that number, rounded down", RanksEdgesTest::roundedDown);
        doc.test(terms, "what it does not send goes to the POT", RanksEdgesTest::notSent);
        doc.test(terms, "with all units of nodes without arcs out", RanksEdgesTest::withoutArcsOut);
        doc.test(terms, "each node gets it by the number of nodes, rounded down", RanksEdgesTest::notSent);
        doc.test(terms, "what is left over goes one by one to the nodes 0, 1, ..", RanksEdgesTest::leftOver);
        doc.test(terms, "SHORTEST walks from s to t have the fewest arcs", RanksEdgesTest::fewestArcs);
        doc.test(terms, "their number is told modulo 1000000007, and how many of them come by a node, likewise", RanksEdgesTest::manyWalks);
        doc.test(terms, "modulo 1000000007", RanksEdgesTest::walksAtTheModulus);
        doc.test(terms, "m is the number of joints", RanksEdgesTest::loopsCountNothing);
        doc.test(terms, "J(u, v) how many there are between two nodes", RanksEdgesTest::severalJoints);
        doc.test(terms, "D(u) the joints of a node", RanksEdgesTest::loopsCountNothing);
        doc.test(terms, "over all ordered pairs of different nodes in one group, of 2 m J(u, v) - D(u) D(v)", RanksEdgesTest::gains);
        doc.test(terms, "At first each node is a group of its own", RanksEdgesTest::withoutJoints);
        doc.test(terms, "In a round each node, from 0 on, goes where the gain becomes greatest", RanksEdgesTest::fromZeroOn);
        doc.test(terms, "to stay, a group in which it has a neighbour, or to be alone again", RanksEdgesTest::onlyNeighbours);
        doc.test(terms, "if no move is better than to stay, it stays", RanksEdgesTest::staying);
        doc.test(terms, "of several best moves the group with the least member (of those without the node itself), to be alone last",
            RanksEdgesTest::leastMember);
        doc.test(terms, "Rounds are done until one moves none", RanksEdgesTest::untilNoneMoves);
        doc.test(terms, "20 at most", RanksEdgesTest::twentyRounds);
        doc.test(terms, "The number of a group is its least node", RanksEdgesTest::leastNode);
    }

    private static void calls(Sentences doc) {
        doc.test(38, "A node's units behind so many ROUNDS (0 .. 40)", RanksEdgesTest::fortyRounds);
        doc.test(38, "Illegal argument", RanksEdgesTest::rankOutside);
        doc.test(39, "what = 0 how many arcs they have (NONE without one)", RanksEdgesTest::withoutOne);
        doc.test(39, "1 how many there are", RanksEdgesTest::walksAtTheModulus);
        doc.test(39, "2 how many of them come by node v (s and t themselves, too", RanksEdgesTest::byNodes);
        doc.test(39, "1 and 2 are 0 without one", RanksEdgesTest::withoutOne);
        doc.test(39, "from a node to itself there is one, of no arc)", RanksEdgesTest::toItself);
        doc.test(39, "Illegal argument", RanksEdgesTest::shortestOutside);
        doc.test(39, "also if v is no node, whatever what is", RanksEdgesTest::byNoNode);
        doc.test(40, "The number of a node's GROUP", RanksEdgesTest::leastNode);
        doc.test(40, "Illegal argument", RanksEdgesTest::groupOutside);
        doc.test(41, "THE GAIN of the GROUPS", RanksEdgesTest::gains);
    }

    private static String ranksOf(GraphHouse h, int rounds) {
        StringBuilder b = new StringBuilder();
        for (int v = 0; v < h.size(0); v++) {
            b.append(h.rank(v, rounds)).append(' ');
        }
        return b.toString().trim();
    }

    private static String groupsOf(GraphHouse h) {
        StringBuilder b = new StringBuilder();
        for (int v = 0; v < h.size(0); v++) {
            b.append(h.group(v)).append(' ');
        }
        return b.toString().trim();
    }

    // ---- ranks

    private static void atFirst() {
        GraphHouse h = Support.withNodes(32);
        Support.chain(h, 0, 1, 0);
        for (int v = 0; v < 32; v++) {
            Support.due("behind no round", h.rank(v, 0), UNITS);
        }
    }

    private static void loopsSend() {
        GraphHouse h = Support.withNodes(2);
        h.arc(0, 0, 0, 0, 0);
        // 850000000000 to itself; the pot of 1150000000000 is halved
        Support.due("a loop", ranksOf(h, 1), "1425000000000 575000000000");
        h.arc(0, 1, 0, 0, 0);
        Support.due("a loop and another arc", ranksOf(h, 1), "1000000000000 1000000000000");
        GraphHouse one = Support.withNodes(1);
        one.arc(0, 0, 0, 0, 0);
        Support.due("a node alone with a loop", one.rank(0, 40), UNITS);
    }

    private static void roundedDown() {
        GraphHouse h = Support.withNodes(2);
        for (int i = 0; i < 3; i++) {
            h.arc(0, 1, 0, 0, 0);
        }
        // 283333333333 along each of three; of the pot, 1150000000001, one is left over
        Support.due("three arcs", ranksOf(h, 1), "575000000001 1424999999999");
        for (int i = 3; i < 7; i++) {
            h.arc(0, 1, 0, 0, 0);
        }
        // 121428571428 along each of seven; the pot is 1150000000004
        Support.due("seven arcs", ranksOf(h, 1), "575000000002 1424999999998");
        for (int i = 7; i < 160; i++) {
            h.arc(0, 1, 0, 0, 0);
        }
        Support.due("160 arcs: 5312500000 each", ranksOf(h, 1), "575000000000 1425000000000");
    }

    private static void notSent() {
        GraphHouse h = Support.withNodes(2);
        Support.chain(h, 0, 1, 0);
        Support.due("150000000000 of each", ranksOf(h, 1), "1000000000000 1000000000000");
        GraphHouse three = Support.withNodes(3);
        Support.chain(three, 0, 1);
        Support.due("716666666666 for each, and two over", ranksOf(three, 1), "716666666667 1566666666667 716666666666");
    }

    private static void withoutArcsOut() {
        GraphHouse h = Support.withNodes(1);
        Support.due("a node alone", h.rank(0, 1) + " " + h.rank(0, 40), UNITS + " " + UNITS);
        GraphHouse two = Support.withNodes(2);
        Support.chain(two, 1, 0);
        Support.due("all of node 0, and 15 of 100 of node 1", ranksOf(two, 1), "1425000000000 575000000000");
    }

    private static void leftOver() {
        GraphHouse h = Support.withNodes(3);
        Support.chain(h, 2, 1);
        Support.due("two: to 0 and 1, not to 2", ranksOf(h, 1), "716666666667 1566666666667 716666666666");
        h.arc(2, 1, 0, 0, 0);
        h.arc(2, 1, 0, 0, 0);
        // 3000000000000 less 849999999999 is 3 times 716666666667
        Support.due("none", ranksOf(h, 1), "716666666667 1566666666666 716666666667");
    }

    private static void fortyRounds() {
        GraphHouse h = Support.withNodes(32);
        for (int i = 0; i < 97; i++) {
            h.arc(i * 7 % 31, i * 5 % 32, 0, 0, 0);
        }
        for (int rounds = 0; rounds <= 40; rounds += 20) {
            long sum = 0;
            for (int v = 0; v < 32; v++) {
                sum += h.rank(v, rounds);
            }
            Support.due("no unit is lost", sum, 32 * UNITS);
        }
        Support.due("fewer rounds behind more", h.rank(3, 0), UNITS);
        GraphHouse two = Support.withNodes(2);
        Support.chain(two, 0, 1);
        Support.due("1", ranksOf(two, 1), "575000000000 1425000000000");
        // node 0 sends 488750000000; the pot is 86250000000 and 1425000000000, and is halved
        Support.due("2", ranksOf(two, 2), "755625000000 1244375000000");
        Support.due("1 again", ranksOf(two, 1), "575000000000 1425000000000");
    }

    private static void rankOutside() {
        GraphHouse h = Support.withNodes(2);
        for (int bad : Support.outside(0, 1)) {
            Support.illegal("node " + bad, () -> h.rank(bad, 0));
        }
        for (int bad : Support.outside(0, 40)) {
            Support.illegal("rounds " + bad, () -> h.rank(0, bad));
        }
        Support.illegal("no node at all", () -> new GraphHouse().rank(0, 0));
    }

    // ---- shortest walks

    private static String shortestOf(GraphHouse h, int s, int t, int v) {
        return h.shortest(s, t, 0, v) + " " + h.shortest(s, t, 1, v) + " " + h.shortest(s, t, 2, v);
    }

    private static void fewestArcs() {
        GraphHouse h = Support.withNodes(4);
        h.arc(0, 1, -9, 0, 0);
        h.arc(1, 3, -9, 0, 0);
        h.arc(0, 3, 1000000, 0, 0);
        h.arc(0, 2, 0, 0, 0);
        h.arc(2, 3, 0, 0, 0);
        Support.due("whatever the weights", shortestOf(h, 0, 3, 1), "1 1 0");
        h.take(2);
        Support.due("two of two arcs", shortestOf(h, 0, 3, 1), "2 2 1");
        h.arc(1, 1, -9, 0, 0);
        Support.due("no loops", shortestOf(h, 0, 3, 1), "2 2 1");
    }

    private static void manyWalks() {
        GraphHouse h = Support.withNodes(32);
        for (int i = 0; i < 155; i++) {
            h.arc(i % 31, i % 31 + 1, 0, 0, 0);
        }
        BigInteger prime = BigInteger.valueOf(1000000007);
        for (int t = 11; t < 32; t++) {
            int all = BigInteger.valueOf(5).pow(t).mod(prime).intValue();
            Support.due("by " + t + " steps of five", shortestOf(h, 0, t, t / 2), t + " " + all + " " + all);
        }
        Support.due("5 to the 12th is below the modulus", h.shortest(0, 12, 1, 0), 244140625);
        Support.due("5 to the 13th is above it", h.shortest(0, 13, 1, 0), 1220703125 - 1000000007);
        Support.due("the same by another node", h.shortest(0, 13, 2, 6), 1220703125 - 1000000007);
    }

    /** A house with just so many walks of ten arcs from 0 to 20: by eights, the odd node of a step being the sum so far. */
    private static GraphHouse withWalks(int count) {
        GraphHouse h = Support.withNodes(21);
        for (int step = 1; step <= 10; step++) {
            int sum = step == 10 ? 20 : 2 * step - 1;
            int one = step == 10 ? 19 : 2 * step;
            int oneBefore = step == 10 ? 18 : 2 * step - 2;
            for (int i = 0; i < 8 && step > 1; i++) {
                h.arc(2 * step - 3, sum, 0, 0, 0);
            }
            for (int i = 0; i < (count >> 30 - 3 * step & 7); i++) {
                h.arc(oneBefore, sum, 0, 0, 0);
            }
            h.arc(oneBefore, one, 0, 0, 0);
        }
        return h;
    }

    private static void walksAtTheModulus() {
        int prime = 1000000007;
        for (int count : new int[] {1, 7, 8, 999999999, prime - 1, prime, prime + 1, prime + 9}) {
            GraphHouse h = withWalks(count);
            int due = count % prime;
            Support.due(count + " walks", h.shortest(0, 20, 0, 0) + " " + h.shortest(0, 20, 1, 0), "10 " + due);
            Support.due("by their ends", h.shortest(0, 20, 2, 0) + " " + h.shortest(0, 20, 2, 20), due + " " + due);
            Support.due("by both last nodes but one", h.shortest(0, 20, 2, 17) + " " + h.shortest(0, 20, 2, 18),
                (count - count % 8) % prime + " " + count % 8);
        }
    }

    private static void withoutOne() {
        GraphHouse h = Support.withNodes(3);
        Support.due("no arc", shortestOf(h, 0, 1, 0), "-1 0 0");
        Support.chain(h, 1, 0);
        Support.due("only back", shortestOf(h, 0, 1, 1), "-1 0 0");
        Support.due("by a node that is beside", shortestOf(h, 1, 0, 2), "1 1 0");
        Support.due("NONE", h.shortest(2, 0, 0, 0), NONE);
    }

    private static void byNodes() {
        GraphHouse h = Support.withNodes(5);
        Support.chain(h, 0, 1, 3);
        Support.chain(h, 0, 2, 3);
        Support.chain(h, 0, 1);
        Support.chain(h, 3, 4);
        Support.due("s itself", shortestOf(h, 0, 3, 0), "2 3 3");
        Support.due("t itself", shortestOf(h, 0, 3, 3), "2 3 3");
        Support.due("by 1", shortestOf(h, 0, 3, 1), "2 3 2");
        Support.due("by 2", shortestOf(h, 0, 3, 2), "2 3 1");
        Support.due("behind t", shortestOf(h, 0, 3, 4), "2 3 0");
        Support.due("on from t", shortestOf(h, 0, 4, 3), "3 3 3");
    }

    private static void toItself() {
        GraphHouse h = Support.withNodes(2);
        Support.due("itself", shortestOf(h, 0, 0, 0), "0 1 1");
        Support.due("by another", shortestOf(h, 0, 0, 1), "0 1 0");
        h.arc(0, 0, 0, 0, 0);
        Support.chain(h, 0, 1, 0);
        Support.due("with a loop and a ring", shortestOf(h, 0, 0, 0), "0 1 1");
        Support.due("by the ring's other node", shortestOf(h, 0, 0, 1), "0 1 0");
    }

    private static void shortestOutside() {
        GraphHouse h = Support.withNodes(2);
        for (int bad : Support.outside(0, 1)) {
            Support.illegal("from " + bad, () -> h.shortest(bad, 0, 0, 0));
            Support.illegal("to " + bad, () -> h.shortest(0, bad, 0, 0));
        }
        for (int bad : Support.outside(0, 2)) {
            Support.illegal("what " + bad, () -> h.shortest(0, 1, bad, 0));
        }
    }

    private static void byNoNode() {
        GraphHouse h = Support.withNodes(2);
        for (int what = 0; what < 3; what++) {
            int w = what;
            for (int bad : Support.outside(0, 1)) {
                Support.illegal("what " + what + " by " + bad, () -> h.shortest(0, 1, w, bad));
                Support.illegal("what " + what + " by " + bad + " to itself", () -> h.shortest(1, 1, w, bad));
            }
        }
    }

    // ---- groups

    private static void withoutJoints() {
        GraphHouse h = Support.withNodes(3);
        Support.due("without arcs", groupsOf(h) + ": " + h.gain(), "0 1 2: 0");
        Support.chain(h, 2, 1);
        Support.due("0 stays alone", groupsOf(h) + ": " + h.gain(), "0 1 1: 2");
        Support.due("without nodes", new GraphHouse().gain(), 0);
    }

    private static void loopsCountNothing() {
        GraphHouse h = Support.withNodes(2);
        h.arc(0, 0, 0, 0, 0);
        Support.due("a loop alone", groupsOf(h) + ": " + h.gain(), "0 1: 0");
        Support.chain(h, 0, 1);
        h.arc(1, 1, 0, 0, 0);
        // m 1, both have one joint
        Support.due("loops beside a joint", groupsOf(h) + ": " + h.gain(), "0 0: 2");
    }

    private static void severalJoints() {
        GraphHouse h = Support.withNodes(3);
        Support.chain(h, 0, 1, 2, 1);
        // m 3, D 1, 3, 2: 0 goes to 1 for 3, 1 leaves it for 6 with 2, and 0 comes again for 6 - 5
        Support.due("two joints draw more than one", groupsOf(h), "0 0 0");
        Support.due("their gain", h.gain(), 2 * (6 - 3) + 2 * (12 - 6) - 2 * 2);
        GraphHouse pair = Support.withNodes(2);
        for (int i = 0; i < 160; i++) {
            pair.arc(i % 2, 1 - i % 2, 0, 0, 0);
        }
        Support.due("160 joints", groupsOf(pair) + ": " + pair.gain(), "0 0: " + 2L * (2 * 160 * 160 - 160 * 160));
    }

    private static void gains() {
        GraphHouse h = Support.withNodes(4);
        Support.chain(h, 0, 1, 2, 0);
        // m 3, each has two joints: 6 less 4 for each of six ordered pairs
        Support.due("three", groupsOf(h) + ": " + h.gain(), "0 0 0 3: 12");
        Support.due("no node", new GraphHouse().gain(), 0);
        Support.due("one node", Support.withNodes(1).gain(), 0);
        h.view(4);
        Support.due("the version before", groupsOf(h) + ": " + h.gain(), "0 1 2 3: 0");
    }

    private static void fromZeroOn() {
        GraphHouse h = Support.withNodes(4);
        Support.chain(h, 3, 2, 1, 0);
        // 0 goes to 1; 1 stays; 2 goes to 3
        Support.due("a row", groupsOf(h), "0 0 2 2");
    }

    private static void onlyNeighbours() {
        GraphHouse h = Support.withNodes(4);
        Support.chain(h, 0, 1);
        Support.chain(h, 2, 3);
        Support.due("two pairs", groupsOf(h), "0 0 2 2");
    }

    private static void staying() {
        GraphHouse h = Support.withNodes(4);
        Support.chain(h, 0, 1, 2, 3, 0);
        // 1 would gain as much with 2 as with 0, with whom it is
        Support.due("a ring of four", groupsOf(h) + ": " + h.gain(), "0 0 2 2: 16");
    }

    private static void leastMember() {
        GraphHouse h = Support.withNodes(4);
        Support.chain(h, 0, 3, 2, 1, 0);
        // 0 gains as much with 1 as with 3
        Support.due("1 before 3", groupsOf(h), "0 0 2 2");
        GraphHouse five = Support.withNodes(5);
        Support.chain(five, 0, 3);
        Support.chain(five, 1, 2);
        Support.chain(five, 4, 3);
        Support.chain(five, 4, 2);
        // m 4: 0 to 3, 1 to 2, then 4 gains 8 - 2 * 3 with both
        Support.due("the group of 0 before that of 1", groupsOf(five), "0 1 1 0 0");
    }

    private static void leastNode() {
        GraphHouse h = Support.withNodes(5);
        Support.chain(h, 4, 3, 2, 4);
        Support.due("2 to 4", groupsOf(h), "0 1 2 2 2");
    }

    private static void groupOutside() {
        GraphHouse h = Support.withNodes(2);
        for (int bad : Support.outside(0, 1)) {
            Support.illegal("node " + bad, () -> h.group(bad));
        }
        Support.illegal("no node at all", () -> new GraphHouse().group(0));
    }

    /** The groups by the words of the document: each move is tried, and the gain is told anew. */
    private static String groupsByWords(int[][] joints, int n, int rounds) {
        int[] group = new int[n];
        for (int v = 0; v < n; v++) {
            group[v] = v;
        }
        boolean moved = true;
        for (int round = 0; round < rounds && moved; round++) {
            moved = false;
            for (int v = 0; v < n; v++) {
                int to = bestGroup(joints, group, v);
                moved |= to != group[v];
                group[v] = to;
            }
        }
        StringBuilder b = new StringBuilder();
        for (int v = 0; v < n; v++) {
            int least = 0;
            while (group[least] != group[v]) {
                least++;
            }
            b.append(least).append(' ');
        }
        return b.toString().trim();
    }

    private static int bestGroup(int[][] joints, int[] group, int v) {
        int[] tried = group.clone();
        int best = group[v];
        long most = gainByWords(joints, group);
        List<Integer> moves = new ArrayList<>();
        for (int u = 0; u < group.length; u++) {
            boolean beside = false;
            for (int w = 0; w < group.length; w++) {
                beside |= group[w] == group[u] && w != v && joints[v][w] > 0;
            }
            if (u != v && beside && !moves.contains(group[u])) {
                moves.add(group[u]);
            }
        }
        int free = 0;
        for (int u = 0; u < group.length; u++) {
            free = Math.max(free, group[u] + 1);
        }
        moves.add(free);
        for (int to : moves) {
            tried[v] = to;
            long gain = gainByWords(joints, tried);
            if (gain > most) {
                most = gain;
                best = to;
            }
        }
        return best;
    }

    private static long gainByWords(int[][] joints, int[] group) {
        int n = group.length;
        long m = 0;
        long[] d = new long[n];
        for (int u = 0; u < n; u++) {
            for (int v = 0; v < n; v++) {
                d[u] += joints[u][v];
                m += u < v ? joints[u][v] : 0;
            }
        }
        long sum = 0;
        for (int u = 0; u < n; u++) {
            for (int v = 0; v < n; v++) {
                sum += u != v && group[u] == group[v] ? 2 * m * joints[u][v] - d[u] * d[v] : 0;
            }
        }
        return sum;
    }

    private static void untilNoneMoves() {
        int[][] joints = new int[4][4];
        GraphHouse h = Support.withNodes(4);
        int[][] pairs = {{0, 1}, {1, 2}, {2, 3}, {1, 3}, {2, 1}};
        for (int[] p : pairs) {
            h.arc(p[0], p[1], 0, 0, 0);
            joints[p[0]][p[1]]++;
            joints[p[1]][p[0]]++;
        }
        Support.due("a second round moves some", groupsByWords(joints, 4, 1).equals(groupsByWords(joints, 4, 20)), false);
        Support.due("all rounds", groupsOf(h), groupsByWords(joints, 4, 20));
    }

    private static void twentyRounds() {
        int[][] joints = new int[31][31];
        GraphHouse h = Support.withNodes(31);
        for (String pair : SLOW.split(" ")) {
            int u = Integer.parseInt(pair.split("-")[0]);
            int v = Integer.parseInt(pair.split("-")[1]);
            h.arc(u, v, 0, 0, 0);
            joints[u][v]++;
            joints[v][u]++;
        }
        String due = groupsByWords(joints, 31, 20);
        Support.due("the 20th round moves some", groupsByWords(joints, 31, 19).equals(due), false);
        Support.due("the 21st would, too", groupsByWords(joints, 31, 21).equals(due), false);
        Support.due("20 rounds", groupsOf(h), due);
    }
}
