/** The boundary cases of promises 19 to 23, and of what the terms say of walks: sentence by sentence. */
public final class WalksEdgesTest {
    private static final int NONE = GraphHouse.NONE;
    private static final long NO = GraphHouse.NO;
    private static final long FALLING = GraphHouse.FALLING;

    public static void main(String[] args) {
        Sentences doc = new Sentences(args);
        terms(doc);
        calls(doc);
        doc.finish("WalksEdgesTest", 19, 23, "WALKS", "THE WIDTH", "SHORT WAYS");
    }

    private static void terms(Sentences doc) {
        int terms = Sentences.TERMS;
        doc.test(terms, "WALKS are rows of arcs, each from where the one before ends", WalksEdgesTest::rowsOfArcs);
        doc.test(terms, "the empty walk goes from each node to itself", WalksEdgesTest::emptyWalk);
        doc.test(terms, "THE DISTANCE from s to t is the least weight (sum of weights) of all walks", WalksEdgesTest::greatWeights);
        doc.test(terms, "there is none if there is no walk", WalksEdgesTest::noWalk);
        doc.test(terms, "it is FALLING if for each walk there is one of less weight", WalksEdgesTest::falling);
        doc.test(terms, "(Distances to nodes that are not FALLING are told though others are", WalksEdgesTest::besidesFalling);
        doc.test(terms, "if there is a distance that is not falling", WalksEdgesTest::noWay);
        doc.test(terms, "of the walks of that weight those of fewest arcs", WalksEdgesTest::fewestArcs);
        doc.test(terms, "of these the one with the lesser place at the first at which they differ", WalksEdgesTest::lesserPlace);
        doc.test(terms, "THE WIDTH from s to t is the greatest least ROOM of a walk", WalksEdgesTest::widths);
        doc.test(terms, "of the empty walk 1000001", WalksEdgesTest::emptyWidth);
        doc.test(terms, "SHORT WAYS from s to t (s other than t) are walks of 1 to 4 arcs", WalksEdgesTest::fourArcs);
        doc.test(terms, "that come to no node twice", WalksEdgesTest::noNodeTwice);
        doc.test(terms, "They are ordered by weight", WalksEdgesTest::shortByWeight);
        doc.test(terms, "then by how many arcs they have", WalksEdgesTest::shortByArcs);
        doc.test(terms, "then by the place of the first arc that differs", WalksEdgesTest::shortByPlace);
        doc.test(terms, "If there are more than 2000, they are TOO MANY", WalksEdgesTest::twoThousand);
    }

    private static void calls(Sentences doc) {
        doc.test(19, "THE DISTANCE; NO; FALLING", WalksEdgesTest::threeAnswers);
        doc.test(19, "Illegal argument", WalksEdgesTest::distanceOutside);
        doc.test(20, "The k-th arc of THE WAY (from 0): its place", WalksEdgesTest::longestWay);
        doc.test(20, "NONE if it has not so many", WalksEdgesTest::wayEnds);
        doc.test(20, "or there is none", WalksEdgesTest::noWay);
        doc.test(20, "Illegal argument", WalksEdgesTest::wayOutside);
        doc.test(20, "also if k is below 0", WalksEdgesTest::wayBelow);
        doc.test(21, "THE WIDTH", WalksEdgesTest::widths);
        doc.test(21, "NONE without a walk", WalksEdgesTest::noWidth);
        doc.test(21, "Illegal argument", WalksEdgesTest::widthOutside);
        doc.test(22, "How many SHORT WAYS there are", WalksEdgesTest::noShortWays);
        doc.test(22, "MANY", WalksEdgesTest::twoThousand);
        doc.test(22, "Illegal argument", WalksEdgesTest::shortsOutside);
        doc.test(22, "also if s is t", WalksEdgesTest::shortsToItself);
        doc.test(23, "Of the k-th SHORT WAY (from 0) arc i: its place", WalksEdgesTest::shortByPlace);
        doc.test(23, "NONE if it has not so many", WalksEdgesTest::shortWayEnds);
        doc.test(23, "there are not so many", WalksEdgesTest::noMoreShortWays);
        doc.test(23, "or they are TOO MANY", WalksEdgesTest::noneOfTooMany);
        doc.test(23, "Illegal argument", WalksEdgesTest::shortArcOutside);
        doc.test(23, "also if s is t", WalksEdgesTest::shortsToItself);
        doc.test(23, "or k or i is below 0", WalksEdgesTest::shortArcBelow);
    }

    /** The arcs of THE WAY, in a row. */
    private static String wayOf(GraphHouse h, int s, int t) {
        StringBuilder b = new StringBuilder();
        for (int k = 0; k < 40; k++) {
            int arc = h.way(s, t, k);
            b.append(arc == NONE ? "" : arc + " ");
        }
        return b.toString().trim();
    }

    /** The arcs of a short way, in a row. */
    private static String shortOf(GraphHouse h, int s, int t, int k) {
        StringBuilder b = new StringBuilder();
        for (int i = 0; i < 6; i++) {
            int arc = h.shortArc(s, t, k, i);
            b.append(arc == NONE ? "" : arc + " ");
        }
        return b.toString().trim();
    }

    // ---- distances and ways

    private static void rowsOfArcs() {
        GraphHouse h = Support.withNodes(3);
        Support.chain(h, 0, 1);
        Support.chain(h, 2, 1);
        Support.due("not against an arc", h.distance(0, 2), NO);
        Support.due("nor by two that end at one node", h.distance(2, 0), NO);
        Support.chain(h, 1, 2);
        Support.due("by two", h.distance(0, 2), 2);
        Support.due("its arcs", wayOf(h, 0, 2), "0 2");
    }

    private static void emptyWalk() {
        GraphHouse h = Support.withNodes(2);
        Support.due("without arcs", h.distance(1, 1), 0);
        Support.due("of no arc", wayOf(h, 1, 1), "");
        h.arc(1, 1, 1, 1, 1);
        Support.due("a loop is more", h.distance(1, 1), 0);
        h.set(0, 0, 0);
        Support.due("a loop of 0 has more arcs", h.distance(1, 1) + " " + h.way(1, 1, 0), "0 -1");
        h.set(0, 0, -1);
        Support.due("a loop below 0 falls", h.distance(1, 1), FALLING);
    }

    private static void greatWeights() {
        GraphHouse h = Support.withNodes(32);
        for (int i = 0; i < 31; i++) {
            h.arc(i, i + 1, 1000000, 1, 0);
        }
        Support.due("the greatest", h.distance(0, 31), 31000000);
        for (int i = 0; i < 31; i++) {
            h.set(i, 0, -1000000);
        }
        Support.due("the least", h.distance(0, 31), -31000000);
        h.arc(31, 0, 1000000, 1, 0);
        Support.due("a ring of 32 that falls", h.distance(0, 31), FALLING);
    }

    private static void noWalk() {
        GraphHouse h = Support.withNodes(2);
        Support.due("no arc", h.distance(0, 1), NO);
        h.arc(1, 0, -5, 0, 0);
        Support.due("only back", h.distance(0, 1), NO);
        h.arc(0, 0, -5, 0, 0);
        Support.due("a falling loop leads nowhere", h.distance(0, 1), NO);
    }

    private static void falling() {
        GraphHouse h = Support.withNodes(3);
        Support.chain(h, 0, 1, 2);
        h.arc(1, 0, -1, 0, 0);
        Support.due("a ring of 0", h.distance(0, 2), 2);
        h.set(2, 0, -2);
        Support.due("a ring of -1", h.distance(0, 2), FALLING);
        Support.due("from the ring to itself", h.distance(0, 0), FALLING);
        Support.due("of rooms of 0, too", h.told(2, 3), 0);
        h.set(2, 0, -1);
        h.arc(2, 2, -1, 0, 0);
        Support.due("a loop at the end", h.distance(0, 2), FALLING);
        h.take(3);
        h.arc(0, 0, -1, 0, 0);
        Support.due("a loop at the beginning", h.distance(0, 2), FALLING);
        h.take(3);
        h.arc(1, 1, -1, 0, 0);
        Support.due("a loop between", h.distance(0, 2), FALLING);
    }

    private static void besidesFalling() {
        GraphHouse h = Support.withNodes(5);
        Support.chain(h, 0, 1, 2);
        h.arc(0, 3, 7, 0, 0);
        h.arc(3, 3, -1, 0, 0);
        h.arc(4, 4, -1, 0, 0);
        h.arc(4, 1, 1, 0, 0);
        Support.due("the loop at 3 does not lead to 2", h.distance(0, 2), 2);
        Support.due("its way", wayOf(h, 0, 2), "0 1");
        Support.due("to 3 it falls", h.distance(0, 3), FALLING);
        Support.due("from 4 it falls", h.distance(4, 2), FALLING);
        Support.due("from 1 it does not", h.distance(1, 2), 1);
        Support.due("from 2 there is none", h.distance(2, 3), NO);
    }

    private static void noWay() {
        GraphHouse h = Support.withNodes(3);
        Support.due("no walk", h.way(0, 1, 0), NONE);
        Support.chain(h, 0, 1);
        h.arc(1, 1, -1, 0, 0);
        Support.due("falling", h.way(0, 1, 0), NONE);
        Support.due("falling from itself", h.way(1, 1, 0), NONE);
        Support.due("the empty one", h.way(0, 0, 0), NONE);
    }

    private static void fewestArcs() {
        GraphHouse h = Support.withNodes(4);
        h.arc(0, 1, 1, 1, 0);
        h.arc(1, 2, 1, 1, 0);
        h.arc(2, 3, 1, 1, 0);
        h.arc(0, 3, 3, 1, 0);
        Support.due("one arc of 3 or three of 1", wayOf(h, 0, 3), "3");
        h.set(3, 0, 4);
        Support.due("less weight comes first", wayOf(h, 0, 3), "0 1 2");
        h.arc(1, 1, 0, 1, 0);
        Support.due("no loop of 0", wayOf(h, 0, 3), "0 1 2");
        h.arc(2, 1, -1, 1, 0);
        Support.due("no ring of 0", wayOf(h, 0, 3), "0 1 2");
    }

    private static void lesserPlace() {
        GraphHouse h = Support.withNodes(4);
        h.arc(2, 3, 1, 1, 0);
        h.arc(0, 1, 1, 1, 0);
        h.arc(0, 2, 1, 1, 0);
        h.arc(1, 3, 1, 1, 0);
        Support.due("the first arc tells", wayOf(h, 0, 3), "1 3");
        h.arc(0, 1, 0, 1, 0);
        h.set(0, 0, 0);
        Support.due("again", wayOf(h, 0, 3), "2 0");
        h.take(4);
        h.set(0, 0, 1);
        h.arc(1, 3, 1, 1, 0);
        Support.due("of several arcs the least place", wayOf(h, 0, 3), "1 3");
        h.take(3);
        Support.due("the other one", wayOf(h, 0, 3), "1 4");
    }

    private static void threeAnswers() {
        GraphHouse h = Support.withNodes(3);
        h.arc(0, 1, -1000000, 0, 0);
        h.arc(1, 1, -1, 0, 0);
        Support.due("a distance", h.distance(0, 0), 0);
        Support.due("NO", h.distance(0, 2), 9000000000000000L);
        Support.due("FALLING", h.distance(0, 1), 9000000000000001L);
    }

    private static void distanceOutside() {
        GraphHouse h = Support.withNodes(2);
        for (int bad : Support.outside(0, 1)) {
            Support.illegal("from " + bad, () -> h.distance(bad, 0));
            Support.illegal("to " + bad, () -> h.distance(0, bad));
        }
        Support.illegal("no node at all", () -> new GraphHouse().distance(0, 0));
    }

    private static void longestWay() {
        GraphHouse h = Support.withNodes(32);
        for (int i = 30; i >= 0; i--) {
            h.arc(i, i + 1, -1000000, 1, 0);
        }
        for (int k = 0; k < 31; k++) {
            Support.due("arc " + k, h.way(0, 31, k), 30 - k);
        }
        Support.due("behind the last", h.way(0, 31, 31), NONE);
    }

    private static void wayEnds() {
        GraphHouse h = Support.withNodes(3);
        Support.chain(h, 0, 1, 2);
        Support.due("the last", h.way(0, 2, 1), 1);
        Support.due("behind it", h.way(0, 2, 2), NONE);
        Support.due("far behind it", h.way(0, 2, Integer.MAX_VALUE), NONE);
    }

    private static void wayOutside() {
        GraphHouse h = Support.withNodes(2);
        for (int bad : Support.outside(0, 1)) {
            Support.illegal("from " + bad, () -> h.way(bad, 0, 0));
            Support.illegal("to " + bad, () -> h.way(0, bad, 0));
        }
    }

    private static void wayBelow() {
        GraphHouse h = Support.withNodes(2);
        Support.chain(h, 0, 1);
        Support.illegal("k -1", () -> h.way(0, 1, -1));
        Support.illegal("the least k", () -> h.way(0, 1, Integer.MIN_VALUE));
        Support.illegal("k -1 of no way", () -> h.way(1, 0, -1));
    }

    // ---- widths

    private static void widths() {
        GraphHouse h = Support.withNodes(3);
        h.arc(0, 1, 0, 1000000, 0);
        h.arc(1, 2, 0, 5, 0);
        h.arc(0, 2, 0, 4, 0);
        Support.due("the least of the walk", h.width(0, 2), 5);
        h.set(2, 1, 6);
        Support.due("the greater of two walks", h.width(0, 2), 6);
        Support.due("the greatest room", h.width(0, 1), 1000000);
        h.set(1, 1, 0);
        h.set(2, 1, 0);
        Support.due("a room of 0", h.width(0, 2), 0);
        h.arc(0, 1, 0, 7, 0);
        Support.due("the wider of two arcs", h.width(0, 1), 1000000);
    }

    private static void emptyWidth() {
        GraphHouse h = Support.withNodes(1);
        Support.due("without arcs", h.width(0, 0), 1000001);
        h.arc(0, 0, 0, 3, 0);
        Support.due("with a loop", h.width(0, 0), 1000001);
    }

    private static void noWidth() {
        GraphHouse h = Support.withNodes(2);
        Support.due("no arc", h.width(0, 1), NONE);
        h.arc(1, 0, 0, 0, 0);
        Support.due("only back", h.width(0, 1), NONE);
        Support.due("a room of 0 is a walk", h.width(1, 0), 0);
    }

    private static void widthOutside() {
        GraphHouse h = Support.withNodes(2);
        for (int bad : Support.outside(0, 1)) {
            Support.illegal("from " + bad, () -> h.width(bad, 0));
            Support.illegal("to " + bad, () -> h.width(0, bad));
        }
    }

    // ---- short ways

    private static void fourArcs() {
        GraphHouse h = Support.withNodes(6);
        Support.chain(h, 0, 1, 2, 3, 4, 5);
        for (int t = 1; t <= 4; t++) {
            Support.due("to " + t, h.shorts(0, t), 1);
            Support.due("its last arc", h.shortArc(0, t, 0, t - 1), t - 1);
            Support.due("no arc more", h.shortArc(0, t, 0, t), NONE);
        }
        Support.due("five arcs are too many", h.shorts(0, 5), 0);
        Support.due("none of them", h.shortArc(0, 5, 0, 0), NONE);
    }

    private static void noNodeTwice() {
        GraphHouse h = Support.withNodes(3);
        Support.chain(h, 0, 1, 2);
        for (int v = 0; v < 3; v++) {
            h.arc(v, v, -9, 9, 0);
        }
        Support.due("no loops", h.shorts(0, 2) + " of " + shortOf(h, 0, 2, 0), "1 of 0 1");
        h.arc(1, 0, -9, 9, 0);
        Support.due("not back to s", h.shorts(0, 2), 1);
        h.arc(2, 1, -9, 9, 0);
        Support.due("not on from t", h.shorts(0, 2), 1);
        Support.due("not by t to t", h.shorts(0, 1) + " of " + shortOf(h, 0, 1, 0), "1 of 0");
    }

    private static void shortByWeight() {
        GraphHouse h = Support.withNodes(5);
        h.arc(0, 4, 1000000, 1, 0);
        Support.chain(h, 0, 1, 2, 3, 4);
        h.arc(0, 4, -1000000, 1, 0);
        for (int p = 1; p <= 4; p++) {
            h.set(p, 0, -1000000);
        }
        Support.due("how many", h.shorts(0, 4), 3);
        Support.due("the least", shortOf(h, 0, 4, 0), "1 2 3 4");
        Support.due("then", shortOf(h, 0, 4, 1), "5");
        Support.due("the greatest", shortOf(h, 0, 4, 2), "0");
        for (int p = 1; p <= 4; p++) {
            h.set(p, 0, 1000000);
        }
        Support.due("the least", shortOf(h, 0, 4, 0), "5");
        Support.due("then", shortOf(h, 0, 4, 1), "0");
        Support.due("the greatest", shortOf(h, 0, 4, 2), "1 2 3 4");
    }

    private static void shortByArcs() {
        GraphHouse h = Support.withNodes(3);
        h.arc(0, 1, 3, 1, 0);
        h.arc(1, 2, -3, 1, 0);
        h.arc(0, 2, 0, 1, 0);
        Support.due("one arc first", shortOf(h, 0, 2, 0), "2");
        Support.due("then two", shortOf(h, 0, 2, 1), "0 1");
        h.set(1, 0, -4);
        Support.due("less weight comes before", shortOf(h, 0, 2, 0), "0 1");
    }

    private static void shortByPlace() {
        GraphHouse h = Support.withNodes(4);
        h.arc(2, 3, 1, 1, 0);
        h.arc(0, 1, 1, 1, 0);
        h.arc(0, 2, 1, 1, 0);
        h.arc(1, 3, 1, 1, 0);
        h.arc(1, 3, 1, 1, 0);
        Support.due("how many", h.shorts(0, 3), 3);
        Support.due("the least first arc", shortOf(h, 0, 3, 0), "1 3");
        Support.due("then the least second one", shortOf(h, 0, 3, 1), "1 4");
        Support.due("the last", shortOf(h, 0, 3, 2), "2 0");
        GraphHouse full = Support.withNodes(2);
        for (int i = 0; i < 160; i++) {
            full.arc(0, 1, 0, 0, 0);
        }
        Support.due("all places", full.shorts(0, 1), 160);
        Support.due("the last place", full.shortArc(0, 1, 159, 0), 159);
    }

    /** By 40 arcs from 0 to 1 and 50 from 1 to 2 there are 2000 ways from 0 to 2. */
    private static GraphHouse ofTwoThousand() {
        GraphHouse h = Support.withNodes(4);
        for (int i = 0; i < 90; i++) {
            h.arc(i < 40 ? 0 : 1, i < 40 ? 1 : 2, 0, 0, 0);
        }
        return h;
    }

    private static void twoThousand() {
        GraphHouse h = ofTwoThousand();
        Support.due("2000", h.shorts(0, 2), 2000);
        Support.due("the last of them", shortOf(h, 0, 2, 1999), "39 89");
        h.arc(0, 2, -9, 0, 0);
        Support.due("2001", h.shorts(0, 2), GraphHouse.MANY);
        Support.due("another pair is free of it", h.shorts(0, 1), 40);
        h.take(90);
        Support.due("2000 again", h.shorts(0, 2), 2000);
        GraphHouse full = Support.withNodes(5);
        for (int i = 0; i < 160; i++) {
            full.arc(i / 40, i / 40 + 1, 0, 0, 0);
        }
        Support.due("2560000", full.shorts(0, 4), GraphHouse.MANY);
        Support.due("1600 of two arcs", full.shorts(2, 4), 1600);
    }

    private static void noShortWays() {
        GraphHouse h = Support.withNodes(2);
        Support.due("no arc", h.shorts(0, 1), 0);
        Support.chain(h, 1, 0);
        Support.due("only back", h.shorts(0, 1), 0);
        Support.due("one", h.shorts(1, 0), 1);
    }

    private static void shortsOutside() {
        GraphHouse h = Support.withNodes(2);
        for (int bad : Support.outside(0, 1)) {
            Support.illegal("from " + bad, () -> h.shorts(bad, 0));
            Support.illegal("to " + bad, () -> h.shorts(0, bad));
        }
    }

    private static void shortsToItself() {
        GraphHouse h = Support.withNodes(2);
        h.arc(1, 1, 0, 0, 0);
        Support.illegal("shorts", () -> h.shorts(1, 1));
        Support.illegal("shortArc", () -> h.shortArc(1, 1, 0, 0));
        Support.illegal("no nodes that are the same", () -> h.shorts(2, 2));
    }

    private static void shortWayEnds() {
        GraphHouse h = Support.withNodes(3);
        Support.chain(h, 0, 1, 2);
        h.arc(0, 2, 9, 9, 0);
        Support.due("the last arc", h.shortArc(0, 2, 0, 1), 1);
        Support.due("behind it", h.shortArc(0, 2, 0, 2), NONE);
        Support.due("behind the other one", h.shortArc(0, 2, 1, 1), NONE);
        Support.due("arc 4", h.shortArc(0, 2, 0, 4), NONE);
        Support.due("far behind it", h.shortArc(0, 2, 0, Integer.MAX_VALUE), NONE);
    }

    private static void noMoreShortWays() {
        GraphHouse h = ofTwoThousand();
        Support.due("one too many", h.shortArc(0, 2, 2000, 0), NONE);
        Support.due("far too many", h.shortArc(0, 2, Integer.MAX_VALUE, 0), NONE);
        Support.due("none at all", h.shortArc(2, 0, 0, 0), NONE);
    }

    private static void noneOfTooMany() {
        GraphHouse h = ofTwoThousand();
        h.arc(0, 2, -9, 0, 0);
        Support.due("the first", h.shortArc(0, 2, 0, 0), NONE);
        Support.due("the last", h.shortArc(0, 2, 2000, 0), NONE);
    }

    private static void shortArcOutside() {
        GraphHouse h = Support.withNodes(2);
        for (int bad : Support.outside(0, 1)) {
            Support.illegal("from " + bad, () -> h.shortArc(bad, 0, 0, 0));
            Support.illegal("to " + bad, () -> h.shortArc(0, bad, 0, 0));
        }
    }

    private static void shortArcBelow() {
        GraphHouse h = Support.withNodes(2);
        Support.chain(h, 0, 1);
        Support.illegal("k -1", () -> h.shortArc(0, 1, -1, 0));
        Support.illegal("i -1", () -> h.shortArc(0, 1, 0, -1));
        Support.illegal("the least", () -> h.shortArc(0, 1, Integer.MIN_VALUE, Integer.MIN_VALUE));
        Support.illegal("k -1 of none", () -> h.shortArc(1, 0, -1, 0));
        GraphHouse many = ofTwoThousand();
        many.arc(0, 2, 0, 0, 0);
        Support.illegal("i -1 of too many", () -> many.shortArc(0, 2, 0, -1));
    }
}
