/** The boundary cases of promises 1 to 12, and of what the terms say of nodes, arcs and versions: sentence by sentence. */
public final class ChangesEdgesTest {
    private static final int NONE = GraphHouse.NONE;

    public static void main(String[] args) {
        Sentences doc = new Sentences(args);
        terms(doc);
        changes(doc);
        asking(doc);
        doc.finish("ChangesEdgesTest", 1, 12, "NODES", "VERSIONS", "NEIGHBOURS", "The constants", "`MANY", "`FULL", "`WRONG", "`NO",
            "`FALLING");
    }

    private static void terms(Sentences doc) {
        int terms = Sentences.TERMS;
        doc.test(terms, "NODES are numbered 0, 1, .. as they come, 32 at most", ChangesEdgesTest::thirtyTwoNodes);
        doc.test(terms, "each has a LABEL 0 .. 25", ChangesEdgesTest::labels);
        doc.test(terms, "ARCS have PLACES 0 .. 159", ChangesEdgesTest::places);
        doc.test(terms, "each new one the least that is free", ChangesEdgesTest::leastFreePlace);
        doc.test(terms, "an arc goes from a node to a node (perhaps the same: a LOOP)", ChangesEdgesTest::ends);
        doc.test(terms, "a WEIGHT (-1000000 .. 1000000)", ChangesEdgesTest::weights);
        doc.test(terms, "a ROOM (0 .. 1000000)", ChangesEdgesTest::rooms);
        doc.test(terms, "a KIND 0 .. 25", ChangesEdgesTest::kinds);
        doc.test(terms, "Several arcs may go from one node to the same other one", ChangesEdgesTest::severalArcs);
        doc.test(terms, "Nodes never go", ChangesEdgesTest::nodesNeverGo);
        doc.test(terms, "a house begins with version 0, without nodes", ChangesEdgesTest::beginning);
        doc.test(terms, "each change that is done makes the next one", ChangesEdgesTest::eachChange);
        doc.test(terms, "At most 4000 changes are done", ChangesEdgesTest::fourThousand);
        doc.test(terms, "Whatever is asked is asked of THE GRAPH: the newest version, or the one that view() told",
            ChangesEdgesTest::askedOfTheGraph);
        doc.test(terms, "Changes are always made to the newest one", ChangesEdgesTest::changesOfTheNewest);
        doc.test(terms, "NEIGHBOURS are two different nodes", ChangesEdgesTest::loopsAreNoNeighbours);
        doc.test(terms, "with an arc from one to the other, in whatever direction", ChangesEdgesTest::directions);
        doc.test(terms, "THE JOINTS are all arcs that are no loops", ChangesEdgesTest::joints);
        doc.test(terms, "NONE = -1", () -> Support.due("NONE", GraphHouse.NONE, -1));
        doc.test(terms, "MANY = -2", () -> Support.due("MANY", GraphHouse.MANY, -2));
        doc.test(terms, "FULL = -3", () -> Support.due("FULL", GraphHouse.FULL, -3));
        doc.test(terms, "WRONG = -4", () -> Support.due("WRONG", GraphHouse.WRONG, -4));
        doc.test(terms, "NO = 9000000000000000L", () -> Support.due("NO", GraphHouse.NO, 9000000000000000L));
        doc.test(terms, "FALLING = 9000000000000001L", () -> Support.due("FALLING", GraphHouse.FALLING, 9000000000000001L));
    }

    private static void changes(Sentences doc) {
        doc.test(1, "Version 0", ChangesEdgesTest::beginning);
        doc.test(1, "THE TEXT is empty", () -> Support.due("wipe", new GraphHouse().wipe(), 0));
        doc.test(1, "the pattern is the empty one", ChangesEdgesTest::emptyPattern);
        doc.test(1, "the program 0 ; 0", ChangesEdgesTest::firstProgram);
        doc.test(1, "no run was", ChangesEdgesTest::noRun);
        doc.test(2, "A node: its number", ChangesEdgesTest::thirtyTwoNodes);
        doc.test(2, "Illegal argument", ChangesEdgesTest::labels);
        doc.test(2, "illegal state: there are 32", ChangesEdgesTest::noMoreNodes);
        doc.test(2, "or 4000 changes were done", ChangesEdgesTest::nodeAtTheEnd);
        doc.test(3, "An arc: its place", ChangesEdgesTest::places);
        doc.test(3, "FULL when there are 160", ChangesEdgesTest::full);
        doc.test(3, "Illegal argument", ChangesEdgesTest::ends);
        doc.test(3, "illegal state: 4000 changes were done", ChangesEdgesTest::arcAtTheEnd);
        doc.test(3, "(asked before FULL)", ChangesEdgesTest::fullAtTheEnd);
        doc.test(4, "An arc goes: the version then", ChangesEdgesTest::taking);
        doc.test(4, "Illegal argument", ChangesEdgesTest::takingNone);
        doc.test(4, "illegal state: 4000 changes were done", ChangesEdgesTest::takeAtTheEnd);
        doc.test(5, "An arc's weight (what = 0), room (1), kind (2): what it was", ChangesEdgesTest::setting);
        doc.test(5, "(A change also if it was that", ChangesEdgesTest::settingTheSame);
        doc.test(5, "Illegal argument", ChangesEdgesTest::settingNone);
        doc.test(5, "illegal state: 4000 changes were done", ChangesEdgesTest::setAtTheEnd);
        doc.test(6, "A node's label: what it was", ChangesEdgesTest::labelling);
        doc.test(6, "(A change also if it was that", ChangesEdgesTest::labellingTheSame);
        doc.test(6, "Illegal argument", ChangesEdgesTest::labellingNone);
        doc.test(6, "illegal state: 4000 changes were done", ChangesEdgesTest::labelAtTheEnd);
    }

    private static void asking(Sentences doc) {
        doc.test(7, "THE GRAPH is that of a version from now on, whatever is changed", ChangesEdgesTest::viewStays);
        doc.test(7, "NONE (as at first): always the newest", ChangesEdgesTest::viewOfTheNewest);
        doc.test(7, "which version THE GRAPH is then", ChangesEdgesTest::viewTells);
        doc.test(7, "Illegal argument", ChangesEdgesTest::viewOfNone);
        doc.test(8, "The newest version", ChangesEdgesTest::newest);
        doc.test(9, "How many nodes (what = 0), arcs (1), joints (2) THE GRAPH has", ChangesEdgesTest::sizes);
        doc.test(9, "and the greatest place of an arc (3; NONE)", ChangesEdgesTest::greatestPlace);
        doc.test(9, "Illegal argument", ChangesEdgesTest::sizeOfNone);
        doc.test(10, "Of the arc at a place (0 .. 159): what = 0 from, 1 to, 2 weight, 3 room, 4 kind", ChangesEdgesTest::tellings);
        doc.test(10, "NO when none is there", ChangesEdgesTest::toldOfNone);
        doc.test(10, "Illegal argument", ChangesEdgesTest::toldOutside);
        doc.test(11, "A node's label", ChangesEdgesTest::labelsTold);
        doc.test(11, "Illegal argument", ChangesEdgesTest::labelOfNone);
        doc.test(12, "The k-th arc (from 0, by places) out of a node (way = 0), into it (1): its place", ChangesEdgesTest::arcsByPlaces);
        doc.test(12, "NONE if there are not so many", ChangesEdgesTest::notSoMany);
        doc.test(12, "Illegal argument", ChangesEdgesTest::arcAtOutside);
        doc.test(12, "also if k is below 0", ChangesEdgesTest::arcAtBelow);
    }

    // ---- nodes and arcs

    private static void thirtyTwoNodes() {
        GraphHouse h = new GraphHouse();
        for (int i = 0; i < 32; i++) {
            Support.due("node", h.node(25 - i % 26), i);
        }
        Support.due("size", h.size(0), 32);
        Support.due("the last arc's ends", h.arc(31, 31, 0, 0, 0), 0);
        Support.unready("the 33rd", () -> h.node(0));
        Support.due("size", h.size(0), 32);
    }

    private static void labels() {
        GraphHouse h = new GraphHouse();
        for (int bad : Support.outside(0, 25)) {
            Support.illegal("node " + bad, () -> h.node(bad));
        }
        Support.due("no node came", h.size(0) + " " + h.version(), "0 0");
        Support.due("the least", h.node(0), 0);
        Support.due("the greatest", h.node(25), 1);
        Support.due("labels", h.labelOf(0) + " " + h.labelOf(1), "0 25");
    }

    private static GraphHouse fullHouse() {
        GraphHouse h = Support.withNodes(2);
        for (int p = 0; p < 160; p++) {
            Support.due("place", h.arc(0, 1, p, p, 0), p);
        }
        return h;
    }

    private static void places() {
        GraphHouse h = fullHouse();
        Support.due("the last place", h.told(159, 2), 159);
        Support.due("the greatest place", h.size(3), 159);
        Support.due("arcs", h.size(1), 160);
    }

    private static void leastFreePlace() {
        GraphHouse h = fullHouse();
        h.take(159);
        h.take(0);
        h.take(80);
        Support.due("the least", h.arc(1, 0, 1, 1, 1), 0);
        Support.due("the next", h.arc(1, 0, 1, 1, 1), 80);
        Support.due("the last", h.arc(1, 0, 1, 1, 1), 159);
        Support.due("none", h.arc(1, 0, 1, 1, 1), GraphHouse.FULL);
    }

    private static void ends() {
        GraphHouse h = new GraphHouse();
        Support.illegal("no node at all", () -> h.arc(0, 0, 0, 0, 0));
        h.node(0);
        Support.due("a loop", h.arc(0, 0, 0, 0, 0), 0);
        h.node(0);
        for (int bad : Support.outside(0, 1)) {
            Support.illegal("from " + bad, () -> h.arc(bad, 0, 0, 0, 0));
            Support.illegal("to " + bad, () -> h.arc(0, bad, 0, 0, 0));
        }
        Support.due("from the last to the first", h.arc(1, 0, 0, 0, 0), 1);
        Support.due("arcs", h.size(1), 2);
    }

    private static void weights() {
        GraphHouse h = Support.withNodes(1);
        for (int bad : Support.outside(-1000000, 1000000)) {
            Support.illegal("weight " + bad, () -> h.arc(0, 0, bad, 0, 0));
        }
        h.arc(0, 0, -1000000, 0, 0);
        h.arc(0, 0, 1000000, 0, 0);
        for (int bad : Support.outside(-1000000, 1000000)) {
            Support.illegal("set " + bad, () -> h.set(0, 0, bad));
        }
        Support.due("told", h.told(0, 2) + " " + h.told(1, 2), "-1000000 1000000");
        Support.due("set", h.set(0, 0, 1000000) + " " + h.set(1, 0, -1000000), "-1000000 1000000");
        Support.due("told", h.told(0, 2) + " " + h.told(1, 2), "1000000 -1000000");
    }

    private static void rooms() {
        GraphHouse h = Support.withNodes(1);
        for (int bad : Support.outside(0, 1000000)) {
            Support.illegal("room " + bad, () -> h.arc(0, 0, 0, bad, 0));
        }
        h.arc(0, 0, 0, 0, 0);
        h.arc(0, 0, 0, 1000000, 0);
        for (int bad : Support.outside(0, 1000000)) {
            Support.illegal("set " + bad, () -> h.set(0, 1, bad));
        }
        Support.due("told", h.told(0, 3) + " " + h.told(1, 3), "0 1000000");
        Support.due("set", h.set(0, 1, 1000000) + " " + h.set(1, 1, 0), "0 1000000");
        Support.due("told", h.told(0, 3) + " " + h.told(1, 3), "1000000 0");
    }

    private static void kinds() {
        GraphHouse h = Support.withNodes(1);
        for (int bad : Support.outside(0, 25)) {
            Support.illegal("kind " + bad, () -> h.arc(0, 0, 0, 0, bad));
        }
        h.arc(0, 0, 0, 0, 0);
        h.arc(0, 0, 0, 0, 25);
        for (int bad : Support.outside(0, 25)) {
            Support.illegal("set " + bad, () -> h.set(0, 2, bad));
        }
        Support.due("told", h.told(0, 4) + " " + h.told(1, 4), "0 25");
        Support.due("set", h.set(0, 2, 25) + " " + h.set(1, 2, 0), "0 25");
        Support.due("told", h.told(0, 4) + " " + h.told(1, 4), "25 0");
    }

    private static void severalArcs() {
        GraphHouse h = fullHouse();
        Support.due("all go out", h.arcAt(0, 0, 159), 159);
        Support.due("all come in", h.arcAt(1, 1, 159), 159);
        h.take(3);
        Support.due("one goes alone", h.size(1), 159);
        Support.due("the next is the third", h.arcAt(0, 0, 3), 4);
    }

    private static void nodesNeverGo() {
        GraphHouse h = Support.withNodes(2);
        h.arc(0, 1, 0, 0, 0);
        h.take(0);
        Support.due("nodes without arcs", h.size(0) + " " + h.size(1), "2 0");
        Support.due("the next node", h.node(0), 2);
    }

    // ---- versions

    private static void beginning() {
        GraphHouse h = new GraphHouse();
        Support.due("version", h.version(), 0);
        Support.due("nodes", h.size(0), 0);
        Support.due("view 0", h.view(0), 0);
        Support.illegal("view 1", () -> h.view(1));
        Support.illegal("node 0", () -> h.labelOf(0));
    }

    private static void eachChange() {
        GraphHouse h = new GraphHouse();
        h.node(0);
        h.arc(0, 0, 0, 0, 0);
        h.set(0, 2, 1);
        h.label(0, 1);
        h.take(0);
        Support.due("five changes", h.version(), 5);
        Support.retype(h, "nb;a0 1 0 0 c;");
        h.load();
        Support.due("two of a text", h.version(), 7);
        Support.retype(h, "nb;nb;x");
        h.load();
        Support.due("none of a wrong text", h.version(), 7);
        Support.illegal("none of a refused call", () -> h.node(26));
        h.view(3);
        h.print();
        Support.due("none by asking", h.version(), 7);
        for (int v = 0; v <= 7; v++) {
            Support.due("each can be asked", h.view(v), v);
        }
    }

    private static void fourThousand() {
        GraphHouse h = Support.withChanges(3999);
        Support.due("the last change", h.set(0, 0, 9), 5);
        Support.due("version", h.version(), 4000);
        Support.unready("one more", () -> h.set(0, 0, 9));
        Support.due("version", h.version(), 4000);
        Support.due("view 4000", h.view(4000), 4000);
        Support.due("weight then", h.told(0, 2), 9);
        Support.due("view 3999", h.view(3999), 3999);
        Support.due("weight before", h.told(0, 2), 5);
        Support.illegal("view 4001", () -> h.view(4001));
    }

    private static void askedOfTheGraph() {
        GraphHouse h = Support.withNodes(2);
        h.arc(0, 1, 5, 6, 7);
        h.view(2);
        Support.due("arcs", h.size(1), 0);
        Support.due("told", h.told(0, 2), GraphHouse.NO);
        Support.due("distance", h.distance(0, 1), GraphHouse.NO);
        Support.due("width", h.width(0, 1), NONE);
        Support.due("part", h.part(1, 1), 1);
        Support.due("flow", h.flow(0, 1), 0);
        Support.due("trees", h.trees(), 0);
        Support.due("print", h.print(), 8);
        Support.illegal("bridge", () -> h.bridge(0));
        Support.illegal("span", () -> h.span(0));
        h.view(1);
        Support.illegal("node 1", () -> h.core(1));
        Support.due("trees", h.trees(), 1);
        h.view(NONE);
        Support.due("distance", h.distance(0, 1), 5);
        Support.due("bridge", h.bridge(0), true);
    }

    private static void changesOfTheNewest() {
        GraphHouse h = Support.withNodes(1);
        h.view(0);
        Support.due("an arc of the newest", h.arc(0, 0, 5, 6, 7), 0);
        Support.due("its label", h.label(0, 9), 0);
        Support.due("its weight", h.set(0, 0, 8), 5);
        Support.due("a node more", h.node(3), 1);
        Support.retype(h, "w0 7;");
        Support.due("a text", h.load(), 1);
        Support.due("taken", h.take(0), 7);
        Support.illegal("taken again", () -> h.take(0));
        Support.due("THE GRAPH is as it was", h.size(0), 0);
    }

    private static void loopsAreNoNeighbours() {
        GraphHouse h = Support.withNodes(2);
        h.arc(0, 0, 0, 0, 0);
        h.arc(1, 1, 0, 0, 0);
        Support.due("a clique of one", h.clique(1), NONE);
        Support.due("one colour", h.colour(0) + " " + h.colour(1), "0 0");
    }

    private static void directions() {
        GraphHouse h = Support.withNodes(2);
        h.arc(1, 0, 0, 0, 0);
        Support.due("a clique of two", h.clique(1), 1);
        Support.due("two colours", h.colour(0) + " " + h.colour(1), "0 1");
    }

    private static void joints() {
        GraphHouse h = Support.withNodes(2);
        h.arc(0, 0, 0, 0, 0);
        Support.due("a loop", h.size(2), 0);
        h.arc(0, 1, 0, 0, 0);
        h.arc(1, 0, 0, 0, 0);
        h.arc(0, 1, 0, 0, 0);
        Support.due("each arc that is none", h.size(2), 3);
    }

    // ---- a new object

    private static void emptyPattern() {
        GraphHouse h = Support.withNodes(2);
        h.arc(0, 1, 0, 0, 0);
        h.arc(0, 0, 0, 0, 0);
        Support.due("the empty walk", h.fits(0, 0), 0);
        Support.due("no other", h.fits(0, 1), NONE);
    }

    private static void firstProgram() {
        GraphHouse h = Support.withNodes(3);
        Support.due("a round that changes none", h.run(200, 1, 0, 0), 1);
        Support.due("states", h.state(0) + " " + h.state(2), "0 0");
    }

    private static void noRun() {
        GraphHouse h = Support.withNodes(1);
        Support.illegal("state", () -> h.state(0));
        Support.due("letters", h.letters(0) + " " + h.letters(1) + " " + h.letters(2), "0 0 0");
        Support.due("no fault", h.fault(0) + " " + h.fault(1), "-1 -1");
    }

    // ---- changes that are refused

    private static void noMoreNodes() {
        GraphHouse h = Support.withNodes(32);
        Support.unready("node", () -> h.node(25));
        Support.illegal("the argument comes first", () -> h.node(-1));
        Support.due("version", h.version(), 32);
    }

    private static void nodeAtTheEnd() {
        GraphHouse h = Support.withChanges(4000);
        Support.unready("node", () -> h.node(0));
        Support.illegal("the argument comes first", () -> h.node(26));
        Support.due("nodes", h.size(0), 2);
    }

    private static void full() {
        GraphHouse h = fullHouse();
        Support.due("arc", h.arc(0, 0, 0, 0, 0), GraphHouse.FULL);
        Support.due("no change", h.version() + " " + h.size(1), "162 160");
        Support.illegal("the argument comes first", () -> h.arc(0, 2, 0, 0, 0));
        Support.illegal("no arc behind the last", () -> h.take(160));
        Support.illegal("no arc behind the last", () -> h.set(160, 0, 0));
        Support.illegal("no arc behind the last", () -> h.bridge(160));
        Support.illegal("no arc behind the last", () -> h.span(160));
        Support.illegal("no place behind the last", () -> h.told(160, 0));
        Support.due("other changes are done", h.take(159), 163);
        Support.due("one place", h.arc(0, 0, 0, 0, 0), 159);
    }

    private static void arcAtTheEnd() {
        GraphHouse h = Support.withChanges(4000);
        Support.unready("arc", () -> h.arc(0, 1, 0, 0, 0));
        Support.illegal("the argument comes first", () -> h.arc(0, 1, 0, 0, 26));
        Support.due("arcs", h.size(1), 1);
    }

    private static void fullAtTheEnd() {
        GraphHouse h = fullHouse();
        Support.retype(h, "w0 5;".repeat(50));
        for (int i = 0; i < 100 && h.version() < 3950; i++) {
            h.load();
        }
        for (int i = 0; i < 100 && h.version() < 4000; i++) {
            Support.due("FULL before the end", h.arc(0, 1, 0, 0, 0), GraphHouse.FULL);
            h.set(0, 0, 0);
        }
        Support.unready("arc", () -> h.arc(0, 1, 0, 0, 0));
        Support.illegal("the argument comes first", () -> h.arc(0, 1, 0, -1, 0));
    }

    private static void taking() {
        GraphHouse h = Support.withNodes(1);
        h.arc(0, 0, 0, 0, 0);
        h.arc(0, 0, 0, 0, 0);
        Support.due("take", h.take(1), 4);
        Support.due("take", h.take(0), 5);
        Support.due("arcs", h.size(1), 0);
    }

    private static void takingNone() {
        GraphHouse h = new GraphHouse();
        Support.illegal("no arc at all", () -> h.take(0));
        h.node(0);
        h.arc(0, 0, 0, 0, 0);
        h.arc(0, 0, 0, 0, 0);
        h.arc(0, 0, 0, 0, 0);
        h.take(1);
        Support.illegal("a place that is free", () -> h.take(1));
        for (int bad : Support.outside(0, 159)) {
            Support.illegal("take " + bad, () -> h.take(bad));
        }
        Support.illegal("take 3", () -> h.take(3));
        Support.illegal("take 159", () -> h.take(159));
        Support.due("version", h.version(), 5);
    }

    private static void takeAtTheEnd() {
        GraphHouse h = Support.withChanges(4000);
        Support.unready("take", () -> h.take(0));
        Support.illegal("the argument comes first", () -> h.take(1));
        Support.due("arcs", h.size(1), 1);
    }

    private static void setting() {
        GraphHouse h = Support.withNodes(1);
        h.arc(0, 0, -7, 8, 9);
        Support.due("weight", h.set(0, 0, 1), -7);
        Support.due("room", h.set(0, 1, 2), 8);
        Support.due("kind", h.set(0, 2, 3), 9);
        Support.due("now", h.told(0, 2) + " " + h.told(0, 3) + " " + h.told(0, 4), "1 2 3");
        Support.due("version", h.version(), 5);
    }

    private static void settingTheSame() {
        GraphHouse h = Support.withNodes(1);
        h.arc(0, 0, 1, 2, 3);
        for (int what = 0; what < 3; what++) {
            Support.due("what it was", h.set(0, what, what + 1), what + 1);
            Support.due("a change", h.version(), what + 3);
        }
    }

    private static void settingNone() {
        GraphHouse h = Support.withNodes(1);
        Support.illegal("no arc at all", () -> h.set(0, 0, 0));
        h.arc(0, 0, 0, 0, 0);
        h.arc(0, 0, 0, 0, 0);
        h.take(0);
        Support.illegal("a place that is free", () -> h.set(0, 0, 0));
        Support.illegal("place 2", () -> h.set(2, 0, 0));
        for (int bad : Support.outside(0, 159)) {
            Support.illegal("arc " + bad, () -> h.set(bad, 0, 0));
        }
        for (int bad : Support.outside(0, 2)) {
            Support.illegal("what " + bad, () -> h.set(1, bad, 0));
        }
        Support.illegal("no room of -1", () -> h.set(1, 1, -1));
        Support.illegal("no kind of 26", () -> h.set(1, 2, 26));
        Support.due("version", h.version(), 4);
    }

    private static void setAtTheEnd() {
        GraphHouse h = Support.withChanges(4000);
        for (int what = 0; what < 3; what++) {
            int w = what;
            Support.unready("set " + what, () -> h.set(0, w, 1));
        }
        Support.illegal("the argument comes first", () -> h.set(0, 3, 1));
        Support.illegal("the argument comes first", () -> h.set(0, 2, 26));
        Support.due("as it was", h.told(0, 2) + " " + h.told(0, 3) + " " + h.told(0, 4), "5 6 7");
    }

    private static void labelling() {
        GraphHouse h = new GraphHouse();
        h.node(25);
        Support.due("the greatest", h.label(0, 0), 25);
        Support.due("the least", h.label(0, 25), 0);
        Support.due("now", h.labelOf(0), 25);
        Support.due("version", h.version(), 3);
    }

    private static void labellingTheSame() {
        GraphHouse h = new GraphHouse();
        h.node(25);
        Support.due("what it was", h.label(0, 25), 25);
        Support.due("a change", h.version(), 2);
    }

    private static void labellingNone() {
        GraphHouse h = new GraphHouse();
        Support.illegal("no node at all", () -> h.label(0, 0));
        h.node(4);
        for (int bad : Support.outside(0, 0)) {
            Support.illegal("node " + bad, () -> h.label(bad, 0));
        }
        for (int bad : Support.outside(0, 25)) {
            Support.illegal("label " + bad, () -> h.label(0, bad));
        }
        Support.due("as it was", h.labelOf(0) + " " + h.version(), "4 1");
    }

    private static void labelAtTheEnd() {
        GraphHouse h = Support.withChanges(4000);
        Support.unready("label", () -> h.label(1, 1));
        Support.illegal("the argument comes first", () -> h.label(2, 1));
        Support.illegal("the argument comes first", () -> h.label(1, 26));
        Support.due("as it was", h.labelOf(1), 0);
    }

    // ---- asking

    private static void viewStays() {
        GraphHouse h = Support.withNodes(2);
        h.arc(0, 1, 5, 6, 7);
        h.view(3);
        h.set(0, 0, 4);
        h.label(1, 9);
        h.take(0);
        h.node(1);
        Support.due("the arc", h.told(0, 2), 5);
        Support.due("the label", h.labelOf(1), 0);
        Support.due("the nodes", h.size(0), 2);
        Support.illegal("a node that came later", () -> h.labelOf(2));
        Support.due("its joint", h.distance(0, 1), 5);
        Support.illegal("a refused view", () -> h.view(8));
        Support.due("as before", h.told(0, 2), 5);
    }

    private static void viewOfTheNewest() {
        GraphHouse h = new GraphHouse();
        h.node(1);
        Support.due("as at first", h.size(0), 1);
        Support.due("of no node", h.view(0), 0);
        Support.due("view NONE", h.view(NONE), 1);
        h.node(2);
        Support.due("always the newest", h.size(0), 2);
        Support.due("view 2", h.view(2), 2);
        h.node(3);
        Support.due("the newest by its number stays", h.size(0), 2);
        Support.due("view NONE", h.view(NONE), 3);
        Support.due("the newest", h.size(0), 3);
    }

    private static void viewTells() {
        GraphHouse h = Support.withNodes(3);
        Support.due("0", h.view(0), 0);
        Support.due("3", h.view(3), 3);
        Support.due("1", h.view(1), 1);
        Support.due("NONE", h.view(NONE), 3);
        Support.due("NONE at version 0", new GraphHouse().view(NONE), 0);
        Support.chain(h, 0, 1, 2);
        h.take(1);
        h.label(0, 7);
        int[] arcs = {0, 0, 0, 0, 1, 2, 1, 1};
        for (int step = 0; step < 24; step++) {
            int version = step * 5 % 8;
            Support.due("forth and back", h.view(version), version);
            Support.due("its sizes", h.size(0) + " " + h.size(1) + " " + h.size(3), Math.min(version, 3) + " " + arcs[version] + " "
                + (arcs[version] - 1));
            Support.due("its last arc", h.told(1, 0), version == 5 ? 1 : GraphHouse.NO);
            Support.due("its label", version == 0 ? 0 : h.labelOf(0), version == 7 ? 7 : 0);
        }
    }

    private static void viewOfNone() {
        GraphHouse h = Support.withNodes(3);
        for (int bad : Support.outside(NONE, 3)) {
            Support.illegal("view " + bad, () -> h.view(bad));
        }
        Support.due("still the newest", h.size(0), 3);
    }

    private static void newest() {
        GraphHouse h = Support.withNodes(3);
        h.view(1);
        Support.due("whatever is viewed", h.version(), 3);
        h.label(0, 0);
        Support.due("whatever is viewed", h.version(), 4);
    }

    private static void sizes() {
        GraphHouse h = Support.withNodes(3);
        Support.due("without arcs", h.size(0) + " " + h.size(1) + " " + h.size(2), "3 0 0");
        h.arc(2, 2, 0, 0, 0);
        h.arc(2, 1, 0, 0, 0);
        Support.due("a loop is no joint", h.size(0) + " " + h.size(1) + " " + h.size(2), "3 2 1");
        h.view(4);
        Support.due("of THE GRAPH", h.size(0) + " " + h.size(1) + " " + h.size(2), "3 1 0");
    }

    private static void greatestPlace() {
        GraphHouse h = Support.withNodes(1);
        Support.due("none", h.size(3), NONE);
        h.arc(0, 0, 0, 0, 0);
        Support.due("the first", h.size(3), 0);
        h.arc(0, 0, 0, 0, 0);
        h.arc(0, 0, 0, 0, 0);
        h.take(1);
        Support.due("a gap is below", h.size(3), 2);
        h.take(2);
        Support.due("over the gap", h.size(3), 0);
        h.take(0);
        Support.due("none again", h.size(3), NONE);
    }

    private static void sizeOfNone() {
        for (int bad : Support.outside(0, 3)) {
            Support.illegal("size " + bad, () -> new GraphHouse().size(bad));
        }
    }

    private static void tellings() {
        GraphHouse h = fullHouse();
        h.take(159);
        h.arc(1, 0, -1000000, 1000000, 25);
        long[] want = {1, 0, -1000000, 1000000, 25};
        for (int what = 0; what < 5; what++) {
            Support.due("told " + what, h.told(159, what), want[what]);
        }
        Support.due("the first", h.told(0, 0) + " " + h.told(0, 1), "0 1");
    }

    private static void toldOfNone() {
        GraphHouse h = new GraphHouse();
        for (int what = 0; what < 5; what++) {
            Support.due("no arc at all", h.told(0, what), GraphHouse.NO);
            Support.due("the last place", h.told(159, what), GraphHouse.NO);
        }
        h.node(0);
        h.arc(0, 0, 1, 2, 3);
        h.arc(0, 0, 1, 2, 3);
        h.take(0);
        Support.due("taken", h.told(0, 2), GraphHouse.NO);
        h.view(3);
        Support.due("before it was taken", h.told(0, 2), 1);
        h.view(2);
        Support.due("before it came", h.told(1, 2), GraphHouse.NO);
    }

    private static void toldOutside() {
        GraphHouse h = Support.withNodes(1);
        h.arc(0, 0, 1, 2, 3);
        for (int bad : Support.outside(0, 159)) {
            Support.illegal("place " + bad, () -> h.told(bad, 0));
        }
        for (int bad : Support.outside(0, 4)) {
            Support.illegal("what " + bad, () -> h.told(0, bad));
            Support.illegal("what " + bad + " of none", () -> h.told(1, bad));
        }
    }

    private static void labelsTold() {
        GraphHouse h = new GraphHouse();
        h.node(25);
        h.label(0, 0);
        Support.due("now", h.labelOf(0), 0);
        h.view(1);
        Support.due("then", h.labelOf(0), 25);
    }

    private static void labelOfNone() {
        GraphHouse h = new GraphHouse();
        Support.illegal("no node at all", () -> h.labelOf(0));
        h.node(0);
        h.node(0);
        for (int bad : Support.outside(0, 1)) {
            Support.illegal("node " + bad, () -> h.labelOf(bad));
        }
    }

    private static GraphHouse threeOut() {
        GraphHouse h = Support.withNodes(2);
        Support.chain(h, 0, 1);
        Support.chain(h, 0, 0);
        Support.chain(h, 1, 0);
        Support.chain(h, 0, 1);
        h.take(0);
        Support.chain(h, 0, 0);
        return h;
    }

    private static void arcsByPlaces() {
        GraphHouse h = threeOut();
        Support.due("out of 0", h.arcAt(0, 0, 0) + " " + h.arcAt(0, 0, 1) + " " + h.arcAt(0, 0, 2), "0 1 3");
        Support.due("into 0 (loops are both)", h.arcAt(0, 1, 0) + " " + h.arcAt(0, 1, 1) + " " + h.arcAt(0, 1, 2), "0 1 2");
        Support.due("out of 1", h.arcAt(1, 0, 0), 2);
        Support.due("into 1", h.arcAt(1, 1, 0), 3);
    }

    private static void notSoMany() {
        GraphHouse h = threeOut();
        Support.due("one too many", h.arcAt(0, 0, 3), NONE);
        Support.due("one too many", h.arcAt(0, 1, 3), NONE);
        Support.due("far too many", h.arcAt(1, 0, Integer.MAX_VALUE), NONE);
        Support.due("far too many", h.arcAt(1, 1, Integer.MAX_VALUE), NONE);
        Support.due("no arc at all", Support.withNodes(32).arcAt(31, 0, 0), NONE);
    }

    private static void arcAtOutside() {
        GraphHouse h = threeOut();
        for (int bad : Support.outside(0, 1)) {
            Support.illegal("node " + bad, () -> h.arcAt(bad, 0, 0));
            Support.illegal("way " + bad, () -> h.arcAt(0, bad, 0));
        }
        Support.illegal("no node at all", () -> new GraphHouse().arcAt(0, 0, 0));
    }

    private static void arcAtBelow() {
        GraphHouse h = threeOut();
        Support.illegal("k -1", () -> h.arcAt(0, 0, -1));
        Support.illegal("k -1", () -> h.arcAt(0, 1, -1));
        Support.illegal("the least k", () -> h.arcAt(0, 0, Integer.MIN_VALUE));
    }
}
