import java.math.BigInteger;

/** The boundary cases of promises 31 to 37, and of what the terms say of flows, pairings and trees: sentence by sentence. */
public final class FlowsEdgesTest {
    private static final long NO = GraphHouse.NO;

    public static void main(String[] args) {
        Sentences doc = new Sentences(args);
        terms(doc);
        flowCalls(doc);
        treeCalls(doc);
        doc.finish("FlowsEdgesTest", 31, 37, "FLOWS", "PAIRINGS", "A ROOTED TREE");
    }

    private static void terms(Sentences doc) {
        int terms = Sentences.TERMS;
        doc.test(terms, "FLOWS from s to t (others than each other)", FlowsEdgesTest::toItself);
        doc.test(terms, "a whole number 0 .. ROOM for each arc", FlowsEdgesTest::rooms);
        doc.test(terms, "so that of each other node as much goes out as comes in", FlowsEdgesTest::narrowPlaces);
        doc.test(terms, "THE VALUE is what goes out of s less what comes in there, 0 or more", FlowsEdgesTest::value);
        doc.test(terms, "THE GREATEST FLOW has the greatest value", FlowsEdgesTest::greatest);
        doc.test(terms, "arcs lead from s on that are not full", FlowsEdgesTest::side);
        doc.test(terms, "or backwards such that are not empty", FlowsEdgesTest::sideBackwards);
        doc.test(terms, "(what goes round in rings and loops counts, too)", FlowsEdgesTest::rings);
        doc.test(terms, "the least sum, over flows of that value", FlowsEdgesTest::leastCost);
        doc.test(terms, "PAIRINGS are sets of joints, no two at one node", FlowsEdgesTest::pairsApart);
        doc.test(terms, "each between a node with a label below 13 and one with another label", FlowsEdgesTest::labels);
        doc.test(terms, "THE PAIRING has as many joints as can be, and of those the least sum of weights", FlowsEdgesTest::manyBeforeLight);
        doc.test(terms, "A ROOTED TREE for a node is a set of arcs, one to each node but that one, none to it", FlowsEdgesTest::oneToEach);
        doc.test(terms, "along which walks go from it to all nodes", FlowsEdgesTest::walksFromTheRoot);
        doc.test(terms, "THE TREE'S weight is the least", FlowsEdgesTest::greatTrees);
        doc.test(terms, "THE SPAN: joints by weight, then by place", FlowsEdgesTest::spanOrder);
        doc.test(terms, "each one is in it if its nodes don't hang together by those before it that are", FlowsEdgesTest::spanParts);
        doc.test(terms, "how many sets of joints there are that join all nodes without a ring", FlowsEdgesTest::counts);
        doc.test(terms, "modulo 1000000007", FlowsEdgesTest::greatCounts);
        doc.test(terms, "modulo 1000000007", FlowsEdgesTest::countsAtTheModulus);
    }

    private static void flowCalls(Sentences doc) {
        doc.test(31, "The value of THE GREATEST FLOW", FlowsEdgesTest::rooms);
        doc.test(31, "The value of THE GREATEST FLOW", FlowsEdgesTest::oneBehindTheOther);
        doc.test(31, "Illegal argument", FlowsEdgesTest::flowOutside);
        doc.test(31, "also if s is t", FlowsEdgesTest::toItself);
        doc.test(32, "Whether a node is on THE SIDE of s", FlowsEdgesTest::bothEnds);
        doc.test(32, "Illegal argument", FlowsEdgesTest::sideOutside);
        doc.test(32, "also if s is t", FlowsEdgesTest::toItself);
        doc.test(33, "THE COST of a value (0 .. 200000000)", FlowsEdgesTest::greatCosts);
        doc.test(33, "NO if no flow has it", FlowsEdgesTest::noCost);
        doc.test(33, "Illegal argument", FlowsEdgesTest::costOutside);
        doc.test(33, "also if s is t", FlowsEdgesTest::toItself);
    }

    private static void treeCalls(Sentences doc) {
        doc.test(34, "How many joints THE PAIRING has (what = 0), their weights together (1)", FlowsEdgesTest::greatPairings);
        doc.test(34, "Illegal argument", FlowsEdgesTest::pairingOutside);
        doc.test(35, "THE TREE'S weight for a root", FlowsEdgesTest::oneToEach);
        doc.test(35, "NO if there is none", FlowsEdgesTest::noTree);
        doc.test(35, "Illegal argument", FlowsEdgesTest::treeOutside);
        doc.test(36, "Whether a joint is in THE SPAN", FlowsEdgesTest::spanParts);
        doc.test(36, "(a loop is not)", FlowsEdgesTest::loopIsNotInTheSpan);
        doc.test(36, "Illegal argument", FlowsEdgesTest::spanOutside);
        doc.test(37, "THE COUNT", FlowsEdgesTest::counts);
        doc.test(37, "(1 for one node", () -> Support.due("trees", Support.withNodes(1).trees(), 1));
        doc.test(37, "0 without nodes)", () -> Support.due("trees", new GraphHouse().trees(), 0));
    }

    // ---- flows

    private static void toItself() {
        GraphHouse h = Support.withNodes(2);
        h.arc(1, 1, 1, 1, 1);
        Support.illegal("flow", () -> h.flow(1, 1));
        Support.illegal("side", () -> h.side(1, 1, 0));
        Support.illegal("cost", () -> h.cost(1, 1, 0));
        Support.illegal("flow of no node", () -> h.flow(2, 2));
    }

    private static void rooms() {
        GraphHouse h = Support.withNodes(2);
        Support.due("no arc", h.flow(0, 1), 0);
        h.arc(0, 1, 0, 0, 0);
        Support.due("a room of 0", h.flow(0, 1), 0);
        h.set(0, 1, 1000000);
        Support.due("the greatest room", h.flow(0, 1), 1000000);
        Support.due("not back", h.flow(1, 0), 0);
        for (int i = 1; i < 160; i++) {
            h.arc(0, 1, 0, 1000000, 0);
        }
        Support.due("160 times", h.flow(0, 1), 160000000);
    }

    private static void narrowPlaces() {
        GraphHouse h = Support.withNodes(3);
        h.arc(0, 1, 0, 7, 0);
        h.arc(0, 1, 0, 8, 0);
        h.arc(1, 2, 0, 9, 0);
        Support.due("what comes in must go out", h.flow(0, 2), 9);
        h.arc(1, 1, 0, 1000, 0);
        Support.due("a loop carries nothing on", h.flow(0, 2), 9);
        h.set(2, 1, 16);
        Support.due("what goes out must come in", h.flow(0, 2), 15);
    }

    private static void value() {
        GraphHouse h = Support.withNodes(3);
        h.arc(1, 0, 0, 9, 0);
        Support.due("only into s", h.flow(0, 1), 0);
        h.arc(0, 1, 0, 4, 0);
        Support.due("in and out", h.flow(0, 1), 4);
        Support.due("the other way", h.flow(1, 0), 9);
        h.arc(0, 0, 0, 5, 0);
        Support.due("a loop at s", h.flow(0, 1), 4);
        h.arc(1, 2, 0, 5, 0);
        h.arc(2, 1, 0, 5, 0);
        Support.due("what goes on from t", h.flow(0, 1), 4);
    }

    private static void greatest() {
        GraphHouse h = Support.withNodes(4);
        h.arc(0, 1, 0, 1000000, 0);
        h.arc(0, 2, 0, 1000000, 0);
        h.arc(1, 2, 0, 1, 0);
        h.arc(1, 3, 0, 1000000, 0);
        h.arc(2, 3, 0, 1000000, 0);
        Support.due("two ways", h.flow(0, 3), 2000000);
        h.set(1, 1, 0);
        Support.due("one way and one across", h.flow(0, 3), 1000000);
        h.set(3, 1, 0);
        Support.due("across alone", h.flow(0, 3), 1);
        GraphHouse undone = Support.withNodes(8);
        Support.chain(undone, 0, 1, 2, 7);
        Support.chain(undone, 0, 3, 4, 2);
        Support.chain(undone, 1, 5, 6, 7);
        Support.due("two ways of four arcs, though one of three would stop them", undone.flow(0, 7), 2);
        Support.due("both ends are narrow", undone.side(0, 7, 0) + " " + undone.side(0, 7, 1) + " " + undone.side(0, 7, 3),
            "true false false");
    }

    /** What was asked before is not told again for other ends. */
    private static void oneBehindTheOther() {
        GraphHouse h = Support.withNodes(4);
        int[][] rooms = {{0, 1, 5}, {0, 2, 7}, {1, 0, 11}, {1, 2, 13}, {2, 0, 300}, {2, 1, 17}, {3, 0, 1000}, {3, 1, 2000}};
        for (int[] r : rooms) {
            h.arc(r[0], r[1], 1, r[2], 0);
        }
        String first = "";
        String again = "";
        for (int i = 0; i < 16; i++) {
            int s = i / 4;
            int t = i % 4;
            if (s != t) {
                first = first + h.flow(s, t) + "," + h.side(s, t, 3 - s) + "," + h.cost(s, t, 1) + " ";
                again = h.flow(3 - s, 3 - t) + "," + h.side(3 - s, 3 - t, s) + "," + h.cost(3 - s, 3 - t, 1) + " " + again;
            }
        }
        Support.due("from the first on and from the last on", again, first);
        Support.due("from 0 to 1, behind one from 2 to 1", h.flow(2, 1) + " " + h.flow(0, 1), "22 12");
        Support.due("from 2 to 0, behind one from 2 to 1", h.flow(2, 1) + " " + h.flow(2, 0), "22 311");
    }

    private static void side() {
        GraphHouse h = Support.withNodes(4);
        h.arc(0, 1, 0, 5, 0);
        h.arc(1, 2, 0, 3, 0);
        h.arc(2, 3, 0, 5, 0);
        Support.due("up to the narrow place", h.side(0, 3, 0) + " " + h.side(0, 3, 1) + " " + h.side(0, 3, 2) + " " + h.side(0, 3, 3),
            "true true false false");
        h.set(0, 1, 3);
        Support.due("full at once", h.side(0, 3, 1), false);
        h.set(0, 1, 0);
        Support.due("a room of 0 is full", h.side(0, 3, 1), false);
    }

    private static void sideBackwards() {
        GraphHouse h = Support.withNodes(5);
        h.arc(0, 2, 0, 1, 0);
        h.arc(2, 1, 0, 1, 0);
        h.arc(1, 3, 0, 1, 0);
        h.arc(0, 1, 0, 1, 0);
        h.arc(4, 1, 0, 1, 0);
        Support.due("1 and 2 by whatever flow", h.side(0, 3, 1) + " " + h.side(0, 3, 2), "true true");
        Support.due("not back along an empty arc", h.side(0, 3, 4), false);
    }

    private static void bothEnds() {
        GraphHouse h = Support.withNodes(3);
        Support.due("s itself", h.side(2, 0, 2), true);
        Support.due("t never", h.side(2, 0, 0), false);
        Support.due("a node alone", h.side(2, 0, 1), false);
        h.arc(2, 0, 0, 9, 0);
        h.arc(2, 1, 0, 9, 0);
        Support.due("s, t, another", h.side(2, 0, 2) + " " + h.side(2, 0, 0) + " " + h.side(2, 0, 1), "true false true");
    }

    private static void flowOutside() {
        GraphHouse h = Support.withNodes(2);
        for (int bad : Support.outside(0, 1)) {
            Support.illegal("from " + bad, () -> h.flow(bad, 0));
            Support.illegal("to " + bad, () -> h.flow(0, bad));
        }
    }

    private static void sideOutside() {
        GraphHouse h = Support.withNodes(2);
        for (int bad : Support.outside(0, 1)) {
            Support.illegal("from " + bad, () -> h.side(bad, 0, 0));
            Support.illegal("to " + bad, () -> h.side(0, bad, 0));
            Support.illegal("node " + bad, () -> h.side(0, 1, bad));
        }
    }

    // ---- costs

    private static void rings() {
        GraphHouse h = Support.withNodes(4);
        h.arc(2, 3, -5, 3, 0);
        Support.due("half a ring", h.cost(0, 1, 0), 0);
        h.arc(3, 2, 2, 9, 0);
        Support.due("a ring that earns 3", h.cost(0, 1, 0), -9);
        h.set(1, 0, 5);
        Support.due("a ring of 0", h.cost(0, 1, 0), 0);
        h.set(1, 0, 6);
        Support.due("a ring that costs", h.cost(0, 1, 0), 0);
        h.arc(1, 1, -1000000, 1000000, 0);
        Support.due("a loop that earns", h.cost(0, 1, 0), -1000000000000L);
        h.set(2, 0, 1000000);
        Support.due("a loop that costs", h.cost(0, 1, 0), 0);
        h.arc(0, 1, 4, 7, 0);
        h.arc(1, 0, -6, 5, 0);
        Support.due("a ring by s and t", h.cost(0, 1, 0), -10);
        Support.due("and a value of 2 beside it", h.cost(0, 1, 2), -2);
        Support.due("and one of 7: no room for the ring", h.cost(0, 1, 7), 28);
        Support.due("back there is 5 at most", h.cost(1, 0, 5) + " " + h.cost(1, 0, 6), "-30 " + NO);
    }

    private static void leastCost() {
        GraphHouse h = Support.withNodes(3);
        h.arc(0, 2, 10, 2, 0);
        h.arc(0, 1, 1, 2, 0);
        h.arc(1, 2, 1, 1, 0);
        Support.due("0", h.cost(0, 2, 0), 0);
        Support.due("1 by the cheaper way", h.cost(0, 2, 1), 2);
        Support.due("2 by both", h.cost(0, 2, 2), 12);
        Support.due("3 by all", h.cost(0, 2, 3), 22);
        h.set(0, 0, -10);
        Support.due("1 where it earns", h.cost(0, 2, 1), -10);
        Support.due("0 earns nothing without a ring", h.cost(0, 2, 0), 0);
        GraphHouse row = new GraphHouse();
        for (int label : new int[] {0, 0, 13, 13}) {
            row.node(label);
        }
        for (int v = 0; v < 3; v++) {
            row.arc(v, v + 1, 5, 2, 0);
        }
        Support.due("a pairing leaves both ends alone", row.pairing(0), 1);
        Support.due("1 behind a pairing, and 2 behind a cost", row.cost(1, 2, 1) + " " + row.cost(0, 3, 2), "5 30");
    }

    private static void greatCosts() {
        GraphHouse h = Support.withNodes(2);
        Support.due("0 without arcs", h.cost(0, 1, 0), 0);
        for (int i = 0; i < 160; i++) {
            h.arc(0, 1, 1000000, 1000000, 0);
        }
        Support.due("all of it", h.cost(0, 1, 160000000), 160000000000000L);
        Support.due("0", h.cost(0, 1, 0), 0);
        Support.due("200000000 may be asked", h.cost(0, 1, 200000000), NO);
        for (int i = 0; i < 80; i++) {
            h.set(i, 0, -1000000);
        }
        Support.due("what earns comes first", h.cost(0, 1, 80000000), -80000000000000L);
        Support.due("all of it", h.cost(0, 1, 160000000), 0);
    }

    private static void noCost() {
        GraphHouse h = Support.withNodes(2);
        Support.due("1 without arcs", h.cost(0, 1, 1), NO);
        h.arc(0, 1, 3, 5, 0);
        Support.due("5", h.cost(0, 1, 5), 15);
        Support.due("6", h.cost(0, 1, 6), NO);
        Support.due("the other way", h.cost(1, 0, 1), NO);
        Support.due("the greatest that may be asked", h.cost(0, 1, 200000000), NO);
    }

    private static void costOutside() {
        GraphHouse h = Support.withNodes(2);
        for (int bad : Support.outside(0, 1)) {
            Support.illegal("from " + bad, () -> h.cost(bad, 0, 0));
            Support.illegal("to " + bad, () -> h.cost(0, bad, 0));
        }
        for (int bad : Support.outside(0, 200000000)) {
            Support.illegal("value " + bad, () -> h.cost(0, 1, bad));
        }
    }

    // ---- pairings

    private static GraphHouse labelled(int... labels) {
        GraphHouse h = new GraphHouse();
        for (int label : labels) {
            h.node(label);
        }
        return h;
    }

    private static String pairingOf(GraphHouse h) {
        return h.pairing(0) + " of " + h.pairing(1);
    }

    private static void pairsApart() {
        GraphHouse h = labelled(0, 25, 25);
        Support.due("no joint", pairingOf(h), "0 of 0");
        h.arc(0, 1, 5, 0, 0);
        h.arc(2, 0, 4, 0, 0);
        Support.due("one at node 0", pairingOf(h), "1 of 4");
        h.arc(0, 1, 3, 0, 0);
        Support.due("the lightest of all", pairingOf(h), "1 of 3");
        h.arc(0, 0, -9, 0, 0);
        Support.due("a loop is no joint", pairingOf(h), "1 of 3");
    }

    private static void labels() {
        int[][] pairs = {{0, 12, 0}, {0, 13, 1}, {12, 13, 1}, {13, 12, 1}, {12, 12, 0}, {13, 13, 0}, {13, 25, 0}, {25, 0, 1}};
        for (int[] pair : pairs) {
            GraphHouse h = labelled(pair[0], pair[1]);
            h.arc(0, 1, 7, 0, 0);
            Support.due("labels " + pair[0] + " and " + pair[1], pairingOf(h), pair[2] + " of " + 7 * pair[2]);
            h.label(0, pair[1]);
            Support.due("the same labels", pairingOf(h), "0 of 0");
        }
    }

    private static void manyBeforeLight() {
        GraphHouse h = labelled(0, 0, 25, 25);
        h.arc(0, 2, -1000000, 0, 0);
        h.arc(0, 3, 1000000, 0, 0);
        h.arc(1, 2, 1000000, 0, 0);
        Support.due("two heavy ones before a light one", pairingOf(h), "2 of 2000000");
        h.arc(3, 1, 999999, 0, 0);
        Support.due("the lighter two", pairingOf(h), "2 of -1");
        h.set(3, 0, 1000000);
        h.set(0, 0, 1000000);
        Support.due("as heavy", pairingOf(h), "2 of 2000000");
    }

    private static void greatPairings() {
        GraphHouse none = new GraphHouse();
        Support.due("of no nodes", pairingOf(none), "0 of 0");
        GraphHouse h = new GraphHouse();
        for (int i = 0; i < 32; i++) {
            h.node(i < 16 ? 12 : 13);
        }
        for (int i = 0; i < 16; i++) {
            h.arc(16 + i, i, -1000000, 0, 0);
            for (int k = 1; k < 9; k++) {
                h.arc(i, 16 + (i + k) % 16, -999999, 0, 0);
            }
        }
        Support.due("16 pairs", pairingOf(h), "16 of -16000000");
        h.view(32);
        Support.due("without arcs", pairingOf(h), "0 of 0");
    }

    private static void pairingOutside() {
        for (int bad : Support.outside(0, 1)) {
            Support.illegal("what " + bad, () -> Support.withNodes(2).pairing(bad));
            Support.illegal("what " + bad, () -> new GraphHouse().pairing(bad));
        }
    }

    // ---- trees

    private static void oneToEach() {
        GraphHouse h = Support.withNodes(1);
        Support.due("a root alone", h.tree(0), 0);
        h.arc(0, 0, -5, 0, 0);
        Support.due("no loop", h.tree(0), 0);
        h.node(0);
        h.arc(0, 1, 7, 0, 0);
        h.arc(1, 0, -9, 0, 0);
        Support.due("none to the root", h.tree(0), 7);
        Support.due("the other root", h.tree(1), -9);
        h.arc(0, 1, -8, 0, 0);
        Support.due("one alone to each", h.tree(0), -8);
        h.arc(1, 1, -100, 0, 0);
        Support.due("no loop", h.tree(0), -8);
    }

    private static void walksFromTheRoot() {
        GraphHouse h = Support.withNodes(3);
        h.arc(1, 2, 1, 0, 0);
        h.arc(2, 1, 1, 0, 0);
        Support.due("a ring beside the root is no tree", h.tree(0), NO);
        h.arc(0, 1, 100, 0, 0);
        Support.due("into the ring", h.tree(0), 101);
        h.arc(0, 2, 50, 0, 0);
        Support.due("into the ring elsewhere", h.tree(0), 51);
    }

    private static void greatTrees() {
        GraphHouse h = Support.withNodes(32);
        for (int i = 0; i < 32; i++) {
            h.arc(i, (i + 1) % 32, -1000000, 0, 0);
        }
        Support.due("31 arcs", h.tree(5), -31000000);
        for (int i = 0; i < 32; i++) {
            h.set(i, 0, 1000000);
        }
        Support.due("31 arcs", h.tree(31), 31000000);
    }

    private static void noTree() {
        GraphHouse h = Support.withNodes(2);
        Support.due("no arc", h.tree(0), NO);
        h.arc(1, 0, 1, 0, 0);
        Support.due("only to the root", h.tree(0), NO);
        Support.due("the other root", h.tree(1), 1);
    }

    private static void treeOutside() {
        GraphHouse h = Support.withNodes(2);
        for (int bad : Support.outside(0, 1)) {
            Support.illegal("root " + bad, () -> h.tree(bad));
        }
        Support.illegal("no node at all", () -> new GraphHouse().tree(0));
    }

    // ---- spans and counts

    private static void spanOrder() {
        GraphHouse h = Support.withNodes(2);
        h.arc(0, 1, 5, 0, 0);
        h.arc(1, 0, 5, 0, 0);
        h.arc(0, 1, 6, 0, 0);
        Support.due("the lesser place", h.span(0) + " " + h.span(1) + " " + h.span(2), "true false false");
        h.set(2, 0, -1000000);
        Support.due("the lesser weight", h.span(0) + " " + h.span(1) + " " + h.span(2), "false false true");
        h.set(1, 0, -1000000);
        Support.due("the lesser place again", h.span(0) + " " + h.span(1) + " " + h.span(2), "false true false");
    }

    private static void spanParts() {
        GraphHouse h = Support.withNodes(5);
        h.arc(0, 1, 1, 0, 0);
        h.arc(2, 1, 1, 0, 0);
        h.arc(0, 2, 1, 0, 0);
        h.arc(3, 4, 1000000, 0, 0);
        Support.due("the last of the ring is not", h.span(0) + " " + h.span(1) + " " + h.span(2), "true true false");
        Support.due("another part has its own", h.span(3), true);
    }

    private static void loopIsNotInTheSpan() {
        GraphHouse h = Support.withNodes(2);
        h.arc(0, 0, -9, 0, 0);
        h.arc(0, 1, 9, 0, 0);
        Support.due("the loop", h.span(0), false);
        Support.due("the joint", h.span(1), true);
    }

    private static void spanOutside() {
        GraphHouse h = Support.withNodes(2);
        Support.illegal("no arc at all", () -> h.span(0));
        Support.chain(h, 0, 1, 0);
        h.take(0);
        Support.illegal("a place that is free", () -> h.span(0));
        Support.illegal("place 2", () -> h.span(2));
        for (int bad : Support.outside(0, 159)) {
            Support.illegal("arc " + bad, () -> h.span(bad));
        }
    }

    private static void counts() {
        GraphHouse h = Support.withNodes(2);
        Support.due("apart", h.trees(), 0);
        h.arc(0, 0, 0, 0, 0);
        Support.due("a loop joins nothing", h.trees(), 0);
        Support.chain(h, 1, 0);
        Support.due("one", h.trees(), 1);
        Support.chain(h, 0, 1);
        Support.due("each joint is a tree", h.trees(), 2);
        h.node(0);
        Support.due("one node apart", h.trees(), 0);
        Support.chain(h, 0, 2, 1);
        Support.due("two in a ring with one side double", h.trees(), 5);
        GraphHouse pair = Support.withNodes(2);
        for (int i = 0; i < 160; i++) {
            pair.arc(0, 1, 0, 0, 0);
        }
        Support.due("160", pair.trees(), 160);
        GraphHouse loop = Support.withNodes(1);
        loop.arc(0, 0, 0, 0, 0);
        Support.due("a node with a loop", loop.trees(), 1);
    }

    /**
     * The steps to a graph with so many trees, and so many if its two ends are one node; empty if they are too many. A
     * joint between both ends (b) adds the latter to the former, a joint on to a new end (h) the former to the latter.
     */
    private static String stepsTo(long count, long asOne) {
        StringBuilder steps = new StringBuilder();
        long trees = count;
        long others = asOne;
        while (trees > 0 && others > 0 && trees != others && steps.length() < 120) {
            if (trees > others) {
                steps.append('b');
                trees -= others;
            } else {
                steps.append('h');
                others -= trees;
            }
        }
        String row = steps.reverse().toString();
        return trees == 1 && others == 1 && row.replace("b", "").length() < 30 ? row : "";
    }

    private static long asOne(long count) {
        long others = count * 618 / 1000;
        while (stepsTo(count, others).isEmpty()) {
            others++;
        }
        return others;
    }

    private static GraphHouse laid(String row) {
        GraphHouse h = Support.withNodes(2);
        h.arc(0, 1, 0, 0, 0);
        int end = 1;
        for (char step : row.toCharArray()) {
            if (step == 'h') {
                h.arc(h.node(0), end, 0, 0, 0);
                end++;
            } else {
                h.arc(0, end, 0, 0, 0);
            }
        }
        return h;
    }

    private static void countsAtTheModulus() {
        long prime = 1000000007L;
        long[] counts = {2, 3, 1000, 999999999, prime - 1, prime, prime + 1, 2 * prime - 1, 2 * prime, 2 * prime + 1, 1000 * prime,
            1000 * prime + 5};
        for (long count : counts) {
            Support.due(count + " trees", laid(stepsTo(count, asOne(count))).trees(), count % prime);
        }
        // a node on the latest joint: 0 by the modulus as long as the last two nodes are looked at as one
        long others = asOne(prime);
        GraphHouse h = laid(stepsTo(prime, others));
        int end = h.size(0) - 1;
        h.take(h.size(3));
        int middle = h.node(0);
        h.arc(0, middle, 0, 0, 0);
        h.arc(middle, end, 0, 0, 0);
        Support.due("both halves of the joint, or one of them", h.trees(), (others + 2 * (prime - others)) % prime);
    }

    private static int byPrime(BigInteger n) {
        return n.mod(BigInteger.valueOf(1000000007)).intValue();
    }

    private static void greatCounts() {
        GraphHouse row = Support.withNodes(32);
        for (int i = 0; i < 155; i++) {
            row.arc(i % 31, i % 31 + 1, 0, 0, 0);
        }
        Support.due("31 steps of five", row.trees(), byPrime(BigInteger.valueOf(5).pow(31)));
        GraphHouse all = Support.withNodes(18);
        for (int u = 0; u < 18; u++) {
            for (int v = u + 1; v < 18; v++) {
                all.arc(v, u, 0, 0, 0);
            }
        }
        Support.due("18 nodes, each joined with each", all.trees(), byPrime(BigInteger.valueOf(18).pow(16)));
        GraphHouse ring = Support.withNodes(32);
        for (int i = 0; i < 160; i++) {
            ring.arc(i % 32, (i + 1) % 32, 0, 0, 0);
        }
        Support.due("a ring of 32 with five each", ring.trees(), byPrime(BigInteger.valueOf(5).pow(31).multiply(BigInteger.valueOf(32))));
    }
}
