import java.util.ArrayList;
import java.util.List;

/** Promises 1 to 12: the new object, changes, versions, and what is told of nodes and arcs. */
public final class ChangesTest {
    public static void main(String[] args) {
        newObject();
        nodes();
        arcs();
        takeSetLabel();
        views();
        telling();
        fourThousand();
        versionsByDice();
        Support.finish("ChangesTest");
    }

    private static void newObject() {
        GraphHouse h = new GraphHouse();
        Support.due("version", h.version(), 0);
        Support.due("size 0", h.size(0), 0);
        Support.due("size 1", h.size(1), 0);
        Support.due("size 2", h.size(2), 0);
        Support.due("size 3", h.size(3), GraphHouse.NONE);
        Support.due("wipe", h.wipe(), 0);
        Support.due("fault 0", h.fault(0), GraphHouse.NONE);
        Support.due("fault 1", h.fault(1), GraphHouse.NONE);
        Support.illegal("printed", () -> h.printed(0));
        Support.illegal("state", () -> h.state(0));
        for (int what = 0; what < 3; what++) {
            Support.due("letters", h.letters(what), 0);
        }
        h.node(0);
        Support.due("the empty pattern", h.fits(0, 0), 0);
        h.arc(0, 0, 0, 0, 0);
        Support.illegal("no run was", () -> h.state(0));
        Support.due("program 0 ; 0", h.run(5, 1, 0, 0), 1);
        Support.due("state of 0 ; 0", h.state(0), 0);
        Support.due("constants", GraphHouse.NONE + " " + GraphHouse.MANY + " " + GraphHouse.FULL + " " + GraphHouse.WRONG,
            "-1 -2 -3 -4");
        Support.due("NO", GraphHouse.NO, 9000000000000000L);
        Support.due("FALLING", GraphHouse.FALLING, 9000000000000001L);
    }

    private static void nodes() {
        GraphHouse h = new GraphHouse();
        Support.illegal("label -1", () -> h.node(-1));
        Support.illegal("label 26", () -> h.node(26));
        for (int i = 0; i < 32; i++) {
            Support.due("node", h.node(i % 26), i);
        }
        Support.unready("33rd node", () -> h.node(0));
        Support.illegal("argument before state", () -> h.node(26));
        Support.due("no change by throwing", h.version(), 32);
        Support.due("label of 31", h.labelOf(31), 5);
    }

    private static void arcs() {
        GraphHouse h = new GraphHouse();
        h.node(0);
        h.node(1);
        int[][] bad = {
            {-1, 0, 0, 0, 0}, {2, 0, 0, 0, 0}, {0, -1, 0, 0, 0}, {0, 2, 0, 0, 0},
            {0, 0, 1000001, 0, 0}, {0, 0, -1000001, 0, 0}, {0, 0, 0, -1, 0}, {0, 0, 0, 1000001, 0},
            {0, 0, 0, 0, -1}, {0, 0, 0, 0, 26},
        };
        for (int[] b : bad) {
            Support.illegal("arc", () -> h.arc(b[0], b[1], b[2], b[3], b[4]));
        }
        Support.due("bounds", h.arc(0, 1, 1000000, 1000000, 25), 0);
        Support.due("bounds", h.arc(1, 0, -1000000, 0, 0), 1);
        for (int p = 2; p < 160; p++) {
            Support.due("place", h.arc(p % 2, p / 2 % 2, p, p, p % 26), p);
        }
        int before = h.version();
        Support.due("no place", h.arc(0, 0, 0, 0, 0), GraphHouse.FULL);
        Support.due("FULL is no change", h.version(), before);
        Support.illegal("argument before FULL", () -> h.arc(0, 0, 0, 0, 26));
        h.take(77);
        h.take(5);
        Support.due("least place", h.arc(0, 1, 0, 0, 0), 5);
        Support.due("next place", h.arc(0, 1, 0, 0, 0), 77);
        Support.due("full again", h.arc(0, 1, 0, 0, 0), GraphHouse.FULL);
    }

    private static void takeSetLabel() {
        GraphHouse h = new GraphHouse();
        h.node(3);
        h.node(4);
        h.arc(0, 1, 5, 6, 7);
        h.arc(1, 1, 8, 9, 10);
        Support.due("set weight", h.set(0, 0, -9), 5);
        Support.due("set room", h.set(0, 1, 60), 6);
        Support.due("set kind", h.set(0, 2, 25), 7);
        Support.due("what it was", h.set(0, 0, -9), -9);
        Support.due("a change also if the same", h.version(), 8);
        int[][] bad = {
            {2, 0, 0}, {-1, 0, 0}, {160, 0, 0}, {0, -1, 0}, {0, 3, 0}, {0, 0, 1000001}, {0, 0, -1000001},
            {0, 1, -1}, {0, 1, 1000001}, {0, 2, -1}, {0, 2, 26},
        };
        for (int[] b : bad) {
            Support.illegal("set", () -> h.set(b[0], b[1], b[2]));
        }
        Support.due("label", h.label(1, 25), 4);
        Support.due("label the same", h.label(1, 25), 25);
        Support.due("versions of labels", h.version(), 10);
        Support.illegal("label of no node", () -> h.label(2, 0));
        Support.illegal("label of node -1", () -> h.label(-1, 0));
        Support.illegal("label 26", () -> h.label(0, 26));
        Support.illegal("label -1", () -> h.label(0, -1));
        Support.due("take", h.take(0), 11);
        Support.illegal("taken", () -> h.take(0));
        Support.illegal("set of taken", () -> h.set(0, 0, 0));
        Support.illegal("take -1", () -> h.take(-1));
        Support.illegal("take 160", () -> h.take(160));
        Support.due("version", h.version(), 11);
        Support.due("told", h.told(1, 2), 8);
    }

    private static void views() {
        GraphHouse h = new GraphHouse();
        Support.due("view newest", h.view(GraphHouse.NONE), 0);
        h.node(1);
        h.node(2);
        h.arc(0, 1, 3, 4, 5);
        Support.illegal("view 4", () -> h.view(4));
        Support.illegal("view -2", () -> h.view(-2));
        Support.due("view 2", h.view(2), 2);
        Support.due("arcs then", h.size(1), 0);
        Support.illegal("arc is not there", () -> h.bridge(0));
        Support.due("changes go to the newest", h.set(0, 0, 9), 3);
        Support.due("node", h.node(7), 2);
        Support.due("still two nodes", h.size(0), 2);
        Support.illegal("node of the newest", () -> h.labelOf(2));
        Support.due("changes may name it", h.label(2, 8), 7);
        Support.illegal("a bad view changes nothing", () -> h.view(99));
        Support.due("still two nodes", h.size(0), 2);
        Support.due("version is the newest", h.version(), 6);
        Support.due("view 0", h.view(0), 0);
        Support.due("no nodes", h.size(0), 0);
        Support.due("view 3", h.view(3), 3);
        Support.due("weight then", h.told(0, 2), 3);
        Support.due("view newest", h.view(GraphHouse.NONE), 6);
        Support.due("weight now", h.told(0, 2), 9);
        Support.due("nodes now", h.size(0), 3);
        Support.due("view of the newest by number", h.view(6), 6);
        h.node(0);
        Support.due("stays at that version", h.size(0), 3);
    }

    private static void telling() {
        GraphHouse h = new GraphHouse();
        h.node(3);
        h.node(4);
        h.arc(0, 1, -5, 6, 7);
        h.arc(1, 0, 1, 2, 3);
        h.arc(0, 0, 0, 0, 0);
        h.arc(0, 1, 0, 0, 0);
        h.take(1);
        Support.due("arcs", h.size(1), 3);
        Support.due("joints", h.size(2), 2);
        Support.due("greatest place", h.size(3), 3);
        Support.illegal("size 4", () -> h.size(4));
        Support.illegal("size -1", () -> h.size(-1));
        long[] want = {0, 1, -5, 6, 7};
        for (int what = 0; what < 5; what++) {
            int w = what;
            Support.due("told", h.told(0, what), want[what]);
            Support.due("told of none", h.told(1, what), GraphHouse.NO);
            Support.due("told of the last place", h.told(159, what), GraphHouse.NO);
            Support.illegal("told 160", () -> h.told(160, w));
            Support.illegal("told -1", () -> h.told(-1, w));
        }
        Support.illegal("told what 5", () -> h.told(0, 5));
        Support.illegal("told what -1 of none", () -> h.told(1, -1));
        Support.due("label", h.labelOf(1), 4);
        Support.illegal("label of 2", () -> h.labelOf(2));
        Support.illegal("label of -1", () -> h.labelOf(-1));
        int[] outs = {0, 2, 3, GraphHouse.NONE, GraphHouse.NONE};
        int[] ins = {2, GraphHouse.NONE, GraphHouse.NONE};
        for (int k = 0; k < outs.length; k++) {
            Support.due("out " + k, h.arcAt(0, 0, k), outs[k]);
        }
        for (int k = 0; k < ins.length; k++) {
            Support.due("in " + k, h.arcAt(0, 1, k), ins[k]);
        }
        Support.due("in of 1", h.arcAt(1, 1, 1), 3);
        Support.due("far k", h.arcAt(1, 1, Integer.MAX_VALUE), GraphHouse.NONE);
        Support.illegal("k -1", () -> h.arcAt(0, 0, -1));
        Support.illegal("way 2", () -> h.arcAt(0, 2, 0));
        Support.illegal("way -1", () -> h.arcAt(0, -1, 0));
        Support.illegal("node 2", () -> h.arcAt(2, 0, 0));
        h.take(3);
        Support.due("greatest place falls", h.size(3), 2);
        h.take(2);
        h.take(0);
        Support.due("no place", h.size(3), GraphHouse.NONE);
    }

    /** The limit is come to by texts, within the 512 calls of an object. */
    private static void fourThousand() {
        GraphHouse h = new GraphHouse();
        h.node(0);
        h.node(1);
        h.arc(0, 1, 0, 0, 0);
        Support.retype(h, "w0 1;".repeat(80));
        for (int i = 0; i < 49; i++) {
            Support.due("load", h.load(), 80);
        }
        Support.due("version", h.version(), 3923);
        Support.due("one too many", h.load(), GraphHouse.WRONG);
        Support.due("fault", h.fault(0) + " " + h.fault(1), "4 " + 77 * 5);
        Support.due("nothing was done", h.version(), 3923);
        Support.retype(h, "w0 1;".repeat(77));
        Support.due("the last ones", h.load(), 77);
        Support.due("version", h.version(), 4000);
        Support.unready("node", () -> h.node(0));
        Support.unready("arc", () -> h.arc(0, 0, 0, 0, 0));
        Support.unready("take", () -> h.take(0));
        Support.unready("set", () -> h.set(0, 0, 0));
        Support.unready("label", () -> h.label(0, 0));
        Support.illegal("node", () -> h.node(26));
        Support.illegal("arc", () -> h.arc(0, 2, 0, 0, 0));
        Support.illegal("take", () -> h.take(1));
        Support.illegal("set", () -> h.set(0, 3, 0));
        Support.illegal("label", () -> h.label(2, 0));
        Support.due("WRONG behind all", h.load(), GraphHouse.WRONG);
        Support.due("fault", h.fault(0) + " " + h.fault(1), "4 0");
        h.wipe();
        Support.due("no commands can be done", h.load(), 0);
        Support.due("view far back", h.view(3), 3);
        Support.due("weight then", h.told(0, 2), 0);
        Support.due("view", h.view(4000), 4000);
        Support.due("weight now", h.told(0, 2), 1);
        fullAtTheEnd();
    }

    /** With 160 arcs and 4000 changes the state is told before FULL. */
    private static void fullAtTheEnd() {
        GraphHouse h = new GraphHouse();
        h.node(0);
        for (int i = 0; i < 160; i++) {
            h.arc(0, 0, 0, 0, 0);
        }
        Support.due("full", h.arc(0, 0, 0, 0, 0), GraphHouse.FULL);
        Support.retype(h, "w7 1;".repeat(50));
        for (int i = 0; i < 100 && h.version() <= 3950; i++) {
            h.load();
        }
        for (int i = 0; i < 100 && h.version() < 4000; i++) {
            h.label(0, 3);
        }
        Support.unready("arc", () -> h.arc(0, 0, 0, 0, 0));
        Support.illegal("arc", () -> h.arc(0, 0, 0, 0, 26));
    }

    /** All versions of a long run, by the prints that were made when they were new. */
    private static void versionsByDice() {
        for (int seed = 0; seed < 20; seed++) {
            Support.Dice d = new Support.Dice(seed);
            GraphHouse h = new GraphHouse();
            List<String> prints = new ArrayList<>();
            prints.add("");
            for (int i = 0; i < 300; i++) {
                int before = h.version();
                change(h, d);
                if (h.version() > before) {
                    prints.add(Support.printOf(h));
                }
            }
            for (int i = 0; i < 60; i++) {
                int v = d.below(prints.size());
                Support.due("view", h.view(v), v);
                Support.due("version " + v, Support.printOf(h), prints.get(v));
            }
        }
    }

    private static void change(GraphHouse h, Support.Dice d) {
        int n = h.size(0);
        int p = d.below(Math.max(1, h.size(3) + 1));
        boolean there = h.told(p, 0) != GraphHouse.NO;
        int deed = d.below(10);
        if (n < 2 || deed == 0 && n < 32) {
            h.node(d.below(26));
        } else if (deed < 5) {
            h.arc(d.below(n), d.below(n), d.from(-1000000, 1000000), d.from(0, 1000000), d.below(26));
        } else if (deed == 5) {
            h.label(d.below(n), d.below(26));
        } else if (there && deed < 8) {
            h.take(p);
        } else if (there) {
            h.set(p, deed - 8, d.below(26));
        }
    }
}
