import java.util.Arrays;

/**
 * Promise 30 on graphs of up to 32 nodes and 160 arcs: the fewest colours, and of several colourings the least. What is
 * due is found node by node: each gets the least colour with which all the others can still be coloured.
 */
public final class ColoursTest {
    private static final int GRAPHS = 4000;
    /** Plain trying may take too long for a graph by dice: it is passed over then. */
    private static final int MOST_TRIES = 200000;

    private final int[] near;
    private final int[] colour;
    private int limit;
    private int tries;

    private ColoursTest(int[] near) {
        this.near = near;
        colour = new int[near.length];
    }

    public static void main(String[] args) {
        int compared = 0;
        for (int seed = 0; seed < GRAPHS; seed++) {
            Support.Dice d = new Support.Dice(seed);
            compared += compare("seed " + seed, byDice(d, d.from(2, 32), d.below(161), d.below(5))) ? 1 : 0;
        }
        Support.due("nearly all are compared", compared > GRAPHS * 99 / 100, true);
        known();
        Support.finish("ColoursTest");
    }

    /** A graph with so many joints, if its sort leaves room for them. */
    private static int[] byDice(Support.Dice d, int nodes, int joints, int sort) {
        int[] near = new int[nodes];
        int sides = d.from(3, 6);
        int blocks = d.from(1, 4);
        int count = 0;
        for (int i = 0; i < 4000 && count < joints; i++) {
            int u = d.below(nodes);
            int v = d.below(nodes);
            boolean apart = u % blocks != v % blocks && d.below(12) > 0;
            boolean fits = u != v && (near[u] >> v & 1) == 0;
            fits &= sort != 1 || u * 7 % nodes % sides != v * 7 % nodes % sides;
            fits &= sort != 2 || !apart;
            fits &= sort != 3 || (near[u] & near[v]) == 0;
            fits &= sort != 4 || Math.abs(u - v) <= nodes / blocks;
            if (fits) {
                join(near, u, v);
                count++;
            }
        }
        return near;
    }

    private static void join(int[] near, int u, int v) {
        near[u] |= 1 << v;
        near[v] |= 1 << u;
    }

    private static String coloursOf(int[] near) {
        GraphHouse h = Support.withNodes(near.length);
        for (int u = 0; u < near.length; u++) {
            for (int v = 0; v < u; v++) {
                if ((near[u] >> v & 1) != 0) {
                    h.arc((u + v) % 2 == 0 ? u : v, (u + v) % 2 == 0 ? v : u, 0, 0, 0);
                }
            }
        }
        int[] got = new int[near.length];
        for (int v = near.length - 1; v >= 0; v--) {
            got[v] = h.colour(v);
        }
        return Arrays.toString(got);
    }

    private static boolean compare(String what, int[] near) {
        ColoursTest plain = new ColoursTest(near);
        String due = plain.least();
        if (plain.tries > MOST_TRIES) {
            return false;
        }
        Support.due(what + " " + Arrays.toString(near), coloursOf(near), due);
        return true;
    }

    private String least() {
        int[] fixed = new int[near.length];
        Arrays.fill(fixed, -1);
        limit = 1;
        while (!canFinish(fixed)) {
            limit++;
        }
        for (int v = 0; v < near.length; v++) {
            fixed[v] = 0;
            while (besideOf(fixed, v, fixed[v]) || !canFinish(fixed)) {
                fixed[v]++;
            }
        }
        return Arrays.toString(fixed);
    }

    private boolean besideOf(int[] colours, int v, int c) {
        for (int u = 0; u < near.length; u++) {
            if ((near[v] >> u & 1) != 0 && colours[u] == c) {
                return true;
            }
        }
        return false;
    }

    private boolean canFinish(int[] fixed) {
        System.arraycopy(fixed, 0, colour, 0, near.length);
        return finish();
    }

    /** Gives a node with fewest colours left one of them, and so on; colours that none has are alike. */
    private boolean finish() {
        tries++;
        int v = narrowest();
        if (v < 0 || tries > MOST_TRIES) {
            return true;
        }
        int top = 0;
        for (int c : colour) {
            top = Math.max(top, c + 1);
        }
        for (int c = 0; c < limit && c <= top; c++) {
            if (!besideOf(colour, v, c)) {
                colour[v] = c;
                if (finish()) {
                    return true;
                }
                colour[v] = -1;
            }
        }
        return false;
    }

    private int narrowest() {
        int best = -1;
        int fewest = Integer.MAX_VALUE;
        for (int v = 0; v < near.length; v++) {
            if (colour[v] < 0) {
                int taken = 0;
                for (int u = 0; u < near.length; u++) {
                    taken |= (near[v] >> u & 1) != 0 && colour[u] >= 0 ? 1 << colour[u] : 0;
                }
                int score = (limit - Integer.bitCount(taken)) * 64 - Integer.bitCount(near[v]);
                if (score < fewest) {
                    fewest = score;
                    best = v;
                }
            }
        }
        return best;
    }

    /** Each node twice, and one more: no greater cliques, but one colour more. */
    private static int[] oneColourMore(int[] near) {
        int n = near.length;
        int[] more = new int[2 * n + 1];
        for (int u = 0; u < n; u++) {
            join(more, n + u, 2 * n);
            for (int v = 0; v < n; v++) {
                if ((near[u] >> v & 1) != 0) {
                    join(more, u, v);
                    join(more, u, n + v);
                }
            }
        }
        return more;
    }

    private static int coloursIn(String colours) {
        int most = 0;
        for (String c : colours.substring(1, colours.length() - 1).split(", ")) {
            most = Math.max(most, Integer.parseInt(c) + 1);
        }
        return most;
    }

    private static void known() {
        int[] ring = new int[5];
        for (int v = 0; v < 5; v++) {
            join(ring, v, (v + 1) % 5);
        }
        int[] eleven = oneColourMore(ring);
        int[] more = oneColourMore(eleven);
        Support.due("11 nodes without triangles", coloursIn(coloursOf(eleven)), 4);
        Support.due("23 nodes without triangles", coloursIn(coloursOf(more)), 5);
        compare("23 nodes without triangles", more);
        int[] board = new int[25];
        for (int u = 0; u < 25; u++) {
            for (int v = 0; v < u; v++) {
                int across = Math.abs(u % 5 - v % 5);
                int down = u / 5 - v / 5;
                if (across == 0 || down == 0 || across == down) {
                    join(board, u, v);
                }
            }
        }
        Support.due("queens of a board of 25, with 160 arcs", coloursIn(coloursOf(board)), 5);
        compare("queens of a board of 25", board);
    }
}
