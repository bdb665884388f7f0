/** The boundary cases of promises 24 to 30 and 42, and of what the terms say of parts and figures: sentence by sentence. */
public final class PartsEdgesTest {
    private static final int NONE = GraphHouse.NONE;

    public static void main(String[] args) {
        Sentences doc = new Sentences(args);
        terms(doc);
        calls(doc);
        doc.test(42, "How many TRIANGLES (what = 0), SQUARES (1)", PartsEdgesTest::noFigures);
        doc.test(42, "Illegal argument", PartsEdgesTest::figuresOutside);
        doc.named(42, 42);
        doc.finish("PartsEdgesTest", 24, 30, "PARTS", "THE CORE", "A TRIANGLE");
    }

    private static void terms(Sentences doc) {
        int terms = Sentences.TERMS;
        doc.test(terms, "Two nodes are in one STRONG part if walks go from each to the other", PartsEdgesTest::strong);
        doc.test(terms, "in one WEAK part if joints", PartsEdgesTest::weak);
        doc.test(terms, "(or nothing, if they are the same)", PartsEdgesTest::alone);
        doc.test(terms, "The number of a part is its least node", PartsEdgesTest::leastNode);
        doc.test(terms, "A BRIDGE is a joint without which there would be more weak parts", PartsEdgesTest::bridges);
        doc.test(terms, "A node is a CUT if there are more weak parts without it and its arcs than with it", PartsEdgesTest::cuts);
        doc.test(terms, "if no walk of one or more arcs comes back to where it began", PartsEdgesTest::noOrder);
        doc.test(terms, "again and again the least node that was not taken and to which no arc comes from one that was not",
            PartsEdgesTest::leastFirst);
        doc.test(terms, "each of which has at least k joints (each counted) with others of the set", PartsEdgesTest::cores);
        doc.test(terms, "A CLIQUE is a set of nodes of which each two are neighbours", PartsEdgesTest::cliques);
        doc.test(terms, "THE CLIQUE is the greatest", PartsEdgesTest::greatestClique);
        doc.test(terms, "of several the one that has the least node which is not in both", PartsEdgesTest::severalCliques);
        doc.test(terms, "A COLOURING gives each node a colour 0, 1, .. so that neighbours have different ones", PartsEdgesTest::colours);
        doc.test(terms, "THE COLOURING has the fewest colours", PartsEdgesTest::fewestColours);
        doc.test(terms, "of several the lesser one at the first node at which they differ", PartsEdgesTest::lesserColours);
        doc.test(terms, "A TRIANGLE is a set of three nodes of which each two are neighbours", PartsEdgesTest::triangles);
        doc.test(terms, "A SQUARE is a set of four nodes with a way to go round them all along neighbours", PartsEdgesTest::squares);
        doc.test(terms, "one that can be gone round in several ways (of which directions and beginnings do not count) counts once for each",
            PartsEdgesTest::squaresInSeveralWays);
    }

    private static void calls(Sentences doc) {
        doc.test(24, "The number of a node's STRONG (sort = 0) or WEAK (1) part", PartsEdgesTest::bothSorts);
        doc.test(24, "Illegal argument", PartsEdgesTest::partOutside);
        doc.test(25, "Whether an arc is a BRIDGE", PartsEdgesTest::bridges);
        doc.test(25, "(a loop is none)", PartsEdgesTest::loopIsNoBridge);
        doc.test(25, "Illegal argument", PartsEdgesTest::bridgeOutside);
        doc.test(26, "Whether a node is a CUT", PartsEdgesTest::cuts);
        doc.test(26, "Illegal argument", PartsEdgesTest::cutOutside);
        doc.test(27, "The k-th node of THE ORDER (from 0)", PartsEdgesTest::leastFirst);
        doc.test(27, "NONE if there is none", PartsEdgesTest::noOrder);
        doc.test(27, "or it has not so many", PartsEdgesTest::orderEnds);
        doc.test(27, "Illegal argument: k is below 0", PartsEdgesTest::orderBelow);
        doc.test(28, "A node's CORE", PartsEdgesTest::cores);
        doc.test(28, "Illegal argument", PartsEdgesTest::coreOutside);
        doc.test(29, "The k-th node of THE CLIQUE by numbers (from 0)", PartsEdgesTest::greatestClique);
        doc.test(29, "NONE if it has not so many", PartsEdgesTest::cliqueEnds);
        doc.test(29, "Illegal argument: k is below 0", PartsEdgesTest::cliqueBelow);
        doc.test(30, "A node's colour in THE COLOURING", PartsEdgesTest::colours);
        doc.test(30, "Illegal argument", PartsEdgesTest::colourOutside);
    }

    /** All nodes from first to last are neighbours of each other; every other arc goes back. */
    private static void joinAll(GraphHouse h, int first, int last) {
        for (int u = first; u <= last; u++) {
            for (int v = u + 1; v <= last; v++) {
                h.arc((u + v) % 2 == 0 ? u : v, (u + v) % 2 == 0 ? v : u, 0, 0, 0);
            }
        }
    }

    private static String cliqueOf(GraphHouse h) {
        StringBuilder b = new StringBuilder();
        for (int k = 0; k <= 32; k++) {
            int v = h.clique(k);
            b.append(v == NONE ? "" : v + " ");
        }
        return b.toString().trim();
    }

    private static String coloursOf(GraphHouse h) {
        StringBuilder b = new StringBuilder();
        for (int v = 0; v < h.size(0); v++) {
            b.append(h.colour(v)).append(' ');
        }
        return b.toString().trim();
    }

    private static String orderOf(GraphHouse h) {
        StringBuilder b = new StringBuilder();
        for (int k = 0; k <= 32; k++) {
            int v = h.order(k);
            b.append(v == NONE ? "" : v + " ");
        }
        return b.toString().trim();
    }

    // ---- parts

    private static void strong() {
        GraphHouse h = Support.withNodes(32);
        for (int i = 0; i < 31; i++) {
            h.arc(i, i + 1, 0, 0, 0);
        }
        Support.due("one way alone", h.part(0, 31), 31);
        h.arc(31, 0, 0, 0, 0);
        for (int v = 0; v < 32; v++) {
            Support.due("a ring of 32", h.part(0, v), 0);
        }
        h.take(15);
        for (int v = 0; v < 32; v++) {
            Support.due("an open ring", h.part(0, v), v);
        }
    }

    private static void weak() {
        GraphHouse h = Support.withNodes(32);
        for (int i = 0; i < 31; i++) {
            h.arc(i % 2 == 0 ? i : i + 1, i % 2 == 0 ? i + 1 : i, 0, 0, 0);
        }
        Support.due("whatever their directions", h.part(1, 31), 0);
        h.take(15);
        Support.due("apart", h.part(1, 31), 16);
        Support.due("apart", h.part(1, 15), 0);
    }

    private static void alone() {
        GraphHouse h = Support.withNodes(2);
        Support.due("without arcs", h.part(1, 0) + " " + h.part(1, 1), "0 1");
        Support.due("without arcs", h.part(0, 0) + " " + h.part(0, 1), "0 1");
        h.arc(1, 1, 0, 0, 0);
        Support.due("with a loop", h.part(1, 0) + " " + h.part(1, 1), "0 1");
        Support.due("with a loop", h.part(0, 0) + " " + h.part(0, 1), "0 1");
    }

    private static void leastNode() {
        GraphHouse h = Support.withNodes(5);
        Support.chain(h, 4, 2, 3, 4);
        Support.chain(h, 3, 1);
        for (int v = 2; v <= 4; v++) {
            Support.due("strong", h.part(0, v), 2);
            Support.due("weak", h.part(1, v), 1);
        }
        Support.due("strong", h.part(0, 1), 1);
    }

    private static void bothSorts() {
        GraphHouse h = Support.withNodes(2);
        Support.chain(h, 0, 1);
        Support.due("0 is STRONG", h.part(0, 1), 1);
        Support.due("1 is WEAK", h.part(1, 1), 0);
    }

    private static void partOutside() {
        GraphHouse h = Support.withNodes(3);
        for (int bad : Support.outside(0, 1)) {
            Support.illegal("sort " + bad, () -> h.part(bad, 0));
        }
        for (int bad : Support.outside(0, 2)) {
            Support.illegal("node " + bad, () -> h.part(0, bad));
            Support.illegal("node " + bad, () -> h.part(1, bad));
        }
        Support.illegal("no node at all", () -> new GraphHouse().part(0, 0));
    }

    // ---- bridges and cuts

    private static void bridges() {
        GraphHouse h = Support.withNodes(4);
        Support.chain(h, 0, 1);
        Support.due("alone", h.bridge(0), true);
        Support.chain(h, 0, 1);
        Support.due("two of one direction", h.bridge(0) + " " + h.bridge(1), "false false");
        h.take(1);
        Support.chain(h, 1, 0);
        Support.due("one back", h.bridge(0) + " " + h.bridge(1), "false false");
        h.take(1);
        Support.chain(h, 2, 1);
        Support.due("a row", h.bridge(0) + " " + h.bridge(1), "true true");
        Support.chain(h, 2, 0);
        Support.due("a ring, whatever the directions", h.bridge(0) + " " + h.bridge(1) + " " + h.bridge(2), "false false false");
        Support.chain(h, 3, 1);
        Support.due("beside the ring", h.bridge(3) + " " + h.bridge(0), "true false");
    }

    private static void loopIsNoBridge() {
        GraphHouse h = Support.withNodes(2);
        h.arc(0, 0, 0, 0, 0);
        h.arc(0, 1, 0, 0, 0);
        Support.due("a loop", h.bridge(0), false);
        Support.due("the joint beside it", h.bridge(1), true);
    }

    private static void bridgeOutside() {
        GraphHouse h = Support.withNodes(2);
        Support.illegal("no arc at all", () -> h.bridge(0));
        Support.chain(h, 0, 1, 0);
        h.take(0);
        Support.illegal("a place that is free", () -> h.bridge(0));
        Support.illegal("place 2", () -> h.bridge(2));
        for (int bad : Support.outside(0, 159)) {
            Support.illegal("arc " + bad, () -> h.bridge(bad));
        }
    }

    private static void cuts() {
        GraphHouse h = Support.withNodes(4);
        Support.due("alone: one part less", h.cut(0), false);
        Support.chain(h, 1, 0);
        Support.due("at an end", h.cut(0) + " " + h.cut(1), "false false");
        Support.chain(h, 2, 0);
        Support.due("between", h.cut(0) + " " + h.cut(2), "true false");
        Support.chain(h, 1, 2);
        Support.due("in a ring", h.cut(0) + " " + h.cut(1) + " " + h.cut(2), "false false false");
        h.arc(0, 0, 0, 0, 0);
        Support.due("a loop cuts nothing", h.cut(0), false);
        Support.chain(h, 3, 2);
        Support.due("one that hangs on the ring", h.cut(2) + " " + h.cut(3), "true false");
    }

    private static void cutOutside() {
        GraphHouse h = Support.withNodes(3);
        for (int bad : Support.outside(0, 2)) {
            Support.illegal("node " + bad, () -> h.cut(bad));
        }
    }

    // ---- orders

    private static void noOrder() {
        GraphHouse h = Support.withNodes(3);
        Support.chain(h, 0, 1, 2);
        Support.due("an order", orderOf(h), "0 1 2");
        h.arc(2, 1, 0, 0, 0);
        Support.due("a ring behind", h.order(0), NONE);
        h.take(2);
        h.arc(1, 1, 0, 0, 0);
        Support.due("a loop", h.order(0), NONE);
        h.take(2);
        h.arc(2, 0, 0, 0, 0);
        Support.due("a ring of all", h.order(0), NONE);
        h.take(2);
        Support.due("an order again", orderOf(h), "0 1 2");
    }

    private static void leastFirst() {
        GraphHouse h = Support.withNodes(4);
        Support.due("without arcs", orderOf(h), "0 1 2 3");
        Support.chain(h, 3, 0);
        Support.due("0 waits for 3", orderOf(h), "1 2 3 0");
        Support.chain(h, 2, 1);
        Support.due("1 comes as soon as it can", orderOf(h), "2 1 3 0");
        Support.chain(h, 3, 2);
        Support.due("0 before 2", orderOf(h), "3 0 2 1");
        GraphHouse back = Support.withNodes(32);
        for (int i = 31; i > 0; i--) {
            back.arc(i, i - 1, 0, 0, 0);
        }
        Support.due("32 backwards", back.order(0) + " " + back.order(31), "31 0");
    }

    private static void orderEnds() {
        Support.due("of no nodes", new GraphHouse().order(0), NONE);
        GraphHouse h = Support.withNodes(32);
        Support.due("the last", h.order(31), 31);
        Support.due("behind it", h.order(32), NONE);
        Support.due("far behind it", h.order(Integer.MAX_VALUE), NONE);
    }

    private static void orderBelow() {
        GraphHouse h = Support.withNodes(2);
        Support.illegal("k -1", () -> h.order(-1));
        Support.illegal("the least k", () -> h.order(Integer.MIN_VALUE));
        Support.illegal("of no nodes", () -> new GraphHouse().order(-1));
        h.arc(0, 0, 0, 0, 0);
        Support.illegal("of no order", () -> h.order(-1));
    }

    // ---- cores

    private static void cores() {
        GraphHouse h = Support.withNodes(3);
        Support.due("alone", h.core(0), 0);
        h.arc(0, 0, 0, 0, 0);
        Support.due("a loop is no joint", h.core(0), 0);
        Support.chain(h, 0, 1);
        Support.due("one joint", h.core(0) + " " + h.core(1) + " " + h.core(2), "1 1 0");
        Support.chain(h, 1, 0);
        Support.due("each counted", h.core(0) + " " + h.core(1), "2 2");
        Support.chain(h, 1, 2);
        Support.due("the others keep theirs", h.core(0) + " " + h.core(1) + " " + h.core(2), "2 2 1");
        GraphHouse pair = Support.withNodes(2);
        for (int i = 0; i < 160; i++) {
            pair.arc(i % 2, 1 - i % 2, 0, 0, 0);
        }
        Support.due("160 joints", pair.core(0) + " " + pair.core(1), "160 160");
        GraphHouse star = Support.withNodes(32);
        for (int i = 1; i < 32; i++) {
            star.arc(0, i, 0, 0, 0);
        }
        Support.due("31 joints with nodes of one", star.core(0) + " " + star.core(31), "1 1");
    }

    private static void coreOutside() {
        GraphHouse h = Support.withNodes(3);
        for (int bad : Support.outside(0, 2)) {
            Support.illegal("node " + bad, () -> h.core(bad));
        }
    }

    // ---- cliques

    private static void cliques() {
        GraphHouse h = Support.withNodes(3);
        Support.due("of one node", cliqueOf(h), "0");
        Support.chain(h, 2, 1, 2);
        Support.due("of two, joined twice", cliqueOf(h), "1 2");
        Support.chain(h, 0, 1);
        Support.due("0 and 2 are no neighbours", cliqueOf(h), "0 1");
        Support.chain(h, 2, 0);
        Support.due("of three", cliqueOf(h), "0 1 2");
    }

    private static void greatestClique() {
        GraphHouse h = Support.withNodes(32);
        joinAll(h, 14, 31);
        Support.due("arcs", h.size(1), 153);
        for (int k = 0; k < 18; k++) {
            Support.due("of 18", h.clique(k), 14 + k);
        }
        Support.due("of 18", h.clique(18), NONE);
        Support.chain(h, 0, 1, 2, 0);
        Support.due("the greater one", h.clique(0), 14);
    }

    private static void severalCliques() {
        GraphHouse h = Support.withNodes(6);
        Support.chain(h, 1, 2);
        Support.chain(h, 3, 0);
        Support.due("0 is in one of them", cliqueOf(h), "0 3");
        Support.chain(h, 4, 5, 1, 4);
        Support.due("the greater comes first", cliqueOf(h), "1 4 5");
        Support.chain(h, 1, 3, 2, 1);
        Support.due("2 is in one of them", cliqueOf(h), "1 2 3");
    }

    private static void cliqueEnds() {
        Support.due("of no nodes", new GraphHouse().clique(0), NONE);
        GraphHouse h = Support.withNodes(2);
        Support.due("the last", h.clique(0), 0);
        Support.due("behind it", h.clique(1), NONE);
        Support.due("far behind it", h.clique(Integer.MAX_VALUE), NONE);
    }

    private static void cliqueBelow() {
        Support.illegal("k -1", () -> Support.withNodes(2).clique(-1));
        Support.illegal("the least k", () -> Support.withNodes(2).clique(Integer.MIN_VALUE));
        Support.illegal("of no nodes", () -> new GraphHouse().clique(-1));
    }

    // ---- colourings

    private static void colours() {
        GraphHouse h = Support.withNodes(3);
        Support.due("without arcs", coloursOf(h), "0 0 0");
        h.arc(1, 1, 0, 0, 0);
        Support.due("a loop asks for nothing", coloursOf(h), "0 0 0");
        Support.chain(h, 2, 0);
        Support.due("neighbours", coloursOf(h), "0 0 1");
        GraphHouse all = Support.withNodes(18);
        joinAll(all, 0, 17);
        for (int v = 0; v < 18; v++) {
            Support.due("18 colours", all.colour(v), v);
        }
    }

    private static void fewestColours() {
        GraphHouse h = Support.withNodes(4);
        Support.chain(h, 0, 2, 3, 1);
        Support.due("1 gets a 1, so that two are enough", coloursOf(h), "0 1 1 0");
        GraphHouse ring = Support.withNodes(5);
        Support.chain(ring, 0, 1, 2, 3, 4, 0);
        Support.due("a ring of five needs three", coloursOf(ring), "0 1 0 1 2");
        GraphHouse even = Support.withNodes(32);
        for (int v = 0; v < 32; v++) {
            even.arc(v, (v + 1) % 32, 0, 0, 0);
        }
        Support.due("a ring of 32 needs two", even.colour(30) + " " + even.colour(31), "0 1");
    }

    private static void lesserColours() {
        GraphHouse h = Support.withNodes(6);
        Support.chain(h, 5, 4, 3, 5);
        Support.chain(h, 0, 1);
        Support.due("each as little as can be", coloursOf(h), "0 1 0 0 1 2");
        Support.chain(h, 1, 2);
        Support.due("2 may be as 0", coloursOf(h), "0 1 0 0 1 2");
        Support.chain(h, 2, 3);
        Support.due("3 may not be as 2", coloursOf(h), "0 1 0 1 0 2");
    }

    private static void colourOutside() {
        GraphHouse h = Support.withNodes(3);
        for (int bad : Support.outside(0, 2)) {
            Support.illegal("node " + bad, () -> h.colour(bad));
        }
        Support.illegal("no node at all", () -> new GraphHouse().colour(0));
    }

    // ---- figures

    private static void triangles() {
        GraphHouse h = Support.withNodes(4);
        Support.chain(h, 0, 1, 2);
        Support.due("two sides", h.figures(0), 0);
        Support.chain(h, 0, 2);
        Support.due("whatever the directions", h.figures(0), 1);
        Support.chain(h, 0, 2, 0);
        h.arc(1, 1, 0, 0, 0);
        Support.due("several arcs and loops are no more", h.figures(0), 1);
        GraphHouse all = Support.withNodes(18);
        joinAll(all, 0, 17);
        Support.due("of 18 nodes", all.figures(0), 816);
    }

    private static void squares() {
        GraphHouse h = Support.withNodes(4);
        Support.chain(h, 0, 1, 2, 3);
        Support.due("three sides", h.figures(1), 0);
        Support.chain(h, 0, 3);
        Support.due("whatever the directions", h.figures(1), 1);
        Support.chain(h, 0, 1, 0);
        Support.due("several arcs are no more", h.figures(1), 1);
        GraphHouse wide = Support.withNodes(28);
        for (int i = 0; i < 160; i++) {
            wide.arc(i % 8, 8 + i / 8, 0, 0, 0);
        }
        Support.due("8 nodes with 20 others", wide.figures(0) + " " + wide.figures(1), "0 5320");
    }

    private static void squaresInSeveralWays() {
        GraphHouse h = Support.withNodes(4);
        Support.chain(h, 0, 1, 2, 3, 0);
        Support.due("one way", h.figures(1), 1);
        Support.chain(h, 0, 2);
        Support.due("one across: still one way", h.figures(1), 1);
        Support.chain(h, 3, 1);
        Support.due("both across: three ways", h.figures(1), 3);
        GraphHouse all = Support.withNodes(18);
        joinAll(all, 0, 17);
        Support.due("of 18 nodes", all.figures(1), 9180);
    }

    private static void noFigures() {
        GraphHouse h = new GraphHouse();
        Support.due("of no nodes", h.figures(0) + " " + h.figures(1), "0 0");
        Support.due("of no arcs", Support.withNodes(32).figures(0) + " " + Support.withNodes(32).figures(1), "0 0");
    }

    private static void figuresOutside() {
        for (int bad : Support.outside(0, 1)) {
            Support.illegal("what " + bad, () -> Support.withNodes(3).figures(bad));
        }
    }
}
