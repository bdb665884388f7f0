import java.lang.reflect.InvocationTargetException;
import java.lang.reflect.Method;
import java.util.ArrayList;
import java.util.List;

/**
 * Calls that are refused, of the whole face: for each argument of each call the numbers at its bounds are taken, those
 * next to them and the farthest ones are refused, alone and together with others, and nothing has changed then.
 */
public final class RefusalsTest {
    private static final int NODES = 5;
    private static final long MILLION = 1000000;
    /** The house of these tests has arcs at the places 0, 1, 2, 4, 5. */
    private static final String ARC = "arc";
    private static final int GAP = 3;

    /** A call, with the least and the greatest number of each argument; two names stand for nodes and for arcs. */
    private record Row(String name, boolean apart, Object... bounds) {
    }

    private static final List<Row> ROWS = List.of(
        row("node", 0, 25),
        row("arc", 0, NODES - 1, 0, NODES - 1, -MILLION, MILLION, 0, MILLION, 0, 25),
        row("take", ARC, ARC),
        row("set", ARC, ARC, 0, 0, -MILLION, MILLION),
        row("set", ARC, ARC, 1, 1, 0, MILLION),
        row("set", ARC, ARC, 2, 2, 0, 25),
        row("label", 0, NODES - 1, 0, 25),
        row("view", -1, 12),
        row("size", 0, 3),
        row("told", 0, 159, 0, 4),
        row("labelOf", 0, NODES - 1),
        row("arcAt", 0, NODES - 1, 0, 1, 0, Integer.MAX_VALUE),
        row("type", 32, 126),
        row("fault", 0, 1),
        row("printed", 0, 3),
        row("distance", 0, NODES - 1, 0, NODES - 1),
        row("way", 0, NODES - 1, 0, NODES - 1, 0, Integer.MAX_VALUE),
        row("width", 0, NODES - 1, 0, NODES - 1),
        apart("shorts", 0, NODES - 1, 0, NODES - 1),
        apart("shortArc", 0, NODES - 1, 0, NODES - 1, 0, Integer.MAX_VALUE, 0, Integer.MAX_VALUE),
        row("part", 0, 1, 0, NODES - 1),
        row("bridge", ARC, ARC),
        row("cut", 0, NODES - 1),
        row("order", 0, Integer.MAX_VALUE),
        row("core", 0, NODES - 1),
        row("clique", 0, Integer.MAX_VALUE),
        row("colour", 0, NODES - 1),
        apart("flow", 0, NODES - 1, 0, NODES - 1),
        apart("side", 0, NODES - 1, 0, NODES - 1, 0, NODES - 1),
        apart("cost", 0, NODES - 1, 0, NODES - 1, 0, 200 * MILLION),
        row("pairing", 0, 1),
        row("tree", 0, NODES - 1),
        row("span", ARC, ARC),
        row("rank", 0, NODES - 1, 0, 40),
        row("shortest", 0, NODES - 1, 0, NODES - 1, 0, 2, 0, NODES - 1),
        row("group", 0, NODES - 1),
        row("figures", 0, 1),
        row("fits", 0, NODES - 1, 0, NODES - 1),
        row("run", 0, 200, 1, 4, 0, 90, Long.MIN_VALUE, Long.MAX_VALUE),
        row("state", 0, NODES - 1),
        row("letters", 0, 2)
    );

    private static Row row(String name, Object... bounds) {
        return new Row(name, false, bounds);
    }

    /** The first two arguments may not be the same. */
    private static Row apart(String name, Object... bounds) {
        return new Row(name, true, bounds);
    }

    public static void main(String[] args) {
        Sentences doc = new Sentences(args);
        int terms = Sentences.TERMS;
        doc.test(terms, "In all calls illegal argument: a number is out of its bounds", RefusalsTest::bounds);
        doc.test(terms, "there is no such node, arc, version in THE GRAPH", RefusalsTest::ofTheGraph);
        doc.test(terms, "(or, for changes, in the newest version)", RefusalsTest::ofTheNewest);
        doc.test(terms, "Illegal state: as told", RefusalsTest::states);
        doc.test(terms, "Of several exceptions the one named first is thrown", RefusalsTest::namedFirst);
        doc.test(terms, "A call that throws changes nothing", RefusalsTest::nothingChanges);
        doc.test(terms, "illegal argument", RefusalsTest::allCallsStandHere);
        doc.finish("RefusalsTest", 1, 0, "In all calls");
    }

    private static Method method(String name) {
        for (Method m : GraphHouse.class.getDeclaredMethods()) {
            if (m.getName().equals(name)) {
                return m;
            }
        }
        throw new IllegalStateException("no call " + name);
    }

    private static String outcome(GraphHouse h, String name, Object[] args) {
        try {
            return String.valueOf(method(name).invoke(h, args));
        } catch (InvocationTargetException e) {
            return e.getCause().getClass().getSimpleName();
        } catch (IllegalAccessException e) {
            throw new IllegalStateException(e);
        }
    }

    /** Twelve changes: five nodes, six arcs of which one is taken; a print of four characters, a run and a fault. */
    private static GraphHouse house() {
        GraphHouse h = new GraphHouse();
        h.node(3);
        h.print();
        for (int i = 1; i < NODES; i++) {
            h.node(6 * i);
        }
        Support.retype(h, "a0 1 5 6 b;a1 2 3 4 a;a2 2 1 1 a;a2 3 1 1 a;a3 4 -1 9 b;a1 3 2 2 a;t3;");
        h.load();
        Support.retype(h, ".*");
        h.pattern();
        Support.retype(h, "n;x+s");
        h.program();
        h.run(3, 2, 30, 77);
        Support.retype(h, "x(");
        h.load();
        return h;
    }

    /** All that can be asked without a change. */
    private static String look(GraphHouse h) {
        StringBuilder b = new StringBuilder();
        b.append(h.version()).append(' ').append(h.fault(0)).append(' ').append(h.fault(1)).append(' ');
        for (int i = 0; i < 4; i++) {
            b.append((char) h.printed(i));
        }
        for (int v = 0; v < h.size(0); v++) {
            b.append(' ').append(h.labelOf(v)).append(',').append(h.state(v)).append(',').append(h.fits(0, v));
        }
        for (int p = 0; p < 8; p++) {
            for (int what = 0; what < 5; what++) {
                b.append(' ').append(h.told(p, what));
            }
        }
        return b + " " + h.size(1) + " " + h.size(3) + " " + h.letters(0) + " " + h.letters(1) + " " + h.letters(2);
    }

    private static long least(Object bound) {
        return ARC.equals(bound) ? 0 : ((Number) bound).longValue();
    }

    private static long greatest(Object bound) {
        return ARC.equals(bound) ? 5 : ((Number) bound).longValue();
    }

    /** The numbers next to an argument's bounds and far from them that are refused. */
    private static List<Long> refused(Row row, int i) {
        List<Long> bad = new ArrayList<>();
        boolean whole = method(row.name).getParameterTypes()[i] == long.class;
        if (whole) {
            return bad;
        }
        if (row.bounds[2 * i] == ARC) {
            bad.add((long) GAP);
            bad.add(6L);
            bad.add(159L);
            bad.add(160L);
        }
        long low = least(row.bounds[2 * i]);
        long high = greatest(row.bounds[2 * i + 1]);
        if (row.name.equals("set") && i == 1) {
            low = 0;
            high = 2;
        }
        bad.add(low - 1);
        bad.add((long) Integer.MIN_VALUE);
        if (high < Integer.MAX_VALUE) {
            bad.add(high + 1);
            bad.add((long) Integer.MAX_VALUE);
        }
        return bad;
    }

    /** The arguments at their least (or at their greatest) numbers; nodes that may not be the same are not. */
    private static long[] atBounds(Row row, boolean high) {
        long[] values = new long[row.bounds.length / 2];
        for (int i = 0; i < values.length; i++) {
            values[i] = high ? greatest(row.bounds[2 * i + 1]) : least(row.bounds[2 * i]);
        }
        if (row.apart) {
            values[1] = high ? 0 : NODES - 1;
        }
        return values;
    }

    private static Object[] asArguments(String name, long[] values) {
        Class<?>[] types = method(name).getParameterTypes();
        Object[] args = new Object[values.length];
        for (int i = 0; i < args.length; i++) {
            if (types[i] == long.class) {
                args[i] = values[i];
            } else {
                args[i] = (int) values[i];
            }
        }
        return args;
    }

    private static String told(String name, long[] values) {
        return name + java.util.Arrays.toString(values);
    }

    private static void bounds() {
        for (Row row : ROWS) {
            for (int high = 0; high < 2; high++) {
                long[] values = atBounds(row, high > 0);
                String got = outcome(house(), row.name, asArguments(row.name, values));
                Support.due(told(row.name, values) + " is taken", got.endsWith("Exception"), false);
                for (int i = 0; i < values.length; i++) {
                    for (long bad : refused(row, i)) {
                        long[] wrong = values.clone();
                        wrong[i] = bad;
                        Support.due(told(row.name, wrong), outcome(house(), row.name, asArguments(row.name, wrong)),
                            "IllegalArgumentException");
                    }
                }
            }
            if (row.apart) {
                long[] same = atBounds(row, false);
                for (int v = 0; v < NODES; v++) {
                    same[0] = v;
                    same[1] = v;
                    Support.due(told(row.name, same), outcome(house(), row.name, asArguments(row.name, same)), "IllegalArgumentException");
                }
            }
        }
    }

    /** Each call of the face with arguments has its row. */
    private static void allCallsStandHere() {
        for (Method m : GraphHouse.class.getDeclaredMethods()) {
            if (java.lang.reflect.Modifier.isPublic(m.getModifiers()) && m.getParameterCount() > 0) {
                boolean found = false;
                for (Row row : ROWS) {
                    found |= row.name.equals(m.getName()) && row.bounds.length == 2 * m.getParameterCount();
                }
                Support.due("a row of " + m.getName(), found, true);
            }
        }
    }

    private static void nothingChanges() {
        GraphHouse h = house();
        String before = look(h);
        for (Row row : ROWS) {
            long[] values = atBounds(row, false);
            for (int i = 0; i < values.length; i++) {
                for (long bad : refused(row, i)) {
                    long[] wrong = values.clone();
                    wrong[i] = bad;
                    outcome(h, row.name, asArguments(row.name, wrong));
                }
            }
            Support.due("behind refused calls of " + row.name, look(h), before);
        }
        Support.due("THE TEXT", h.wipe(), 2);
        h.run(3, 2, 30, 77);
        Support.due("the program", look(h), before);
        Support.due("always the newest", h.take(0) + " " + h.size(1), h.version() + " 4");
    }

    private static void ofTheGraph() {
        GraphHouse h = house();
        h.view(2);
        Support.illegal("a node that came later", () -> h.labelOf(2));
        Support.illegal("a node that came later", () -> h.distance(0, 2));
        Support.illegal("a node that came later", () -> h.rank(2, 0));
        Support.illegal("a node that came later", () -> h.fits(2, 0));
        Support.illegal("an arc that came later", () -> h.bridge(0));
        Support.illegal("an arc that came later", () -> h.span(0));
        Support.illegal("a version that is not yet", () -> h.view(h.version() + 1));
        GraphHouse taken = Support.withNodes(2);
        Support.chain(taken, 0, 1);
        taken.take(0);
        Support.illegal("an arc that went", () -> taken.bridge(0));
        taken.view(3);
        Support.due("before it went", taken.bridge(0), true);
    }

    private static void ofTheNewest() {
        GraphHouse h = Support.withNodes(2);
        Support.chain(h, 0, 1);
        h.take(0);
        h.view(3);
        Support.due("there in THE GRAPH", h.told(0, 0), 0);
        Support.illegal("not in the newest", () -> h.take(0));
        Support.illegal("not in the newest", () -> h.set(0, 0, 0));
        h.view(0);
        Support.illegal("no node in THE GRAPH", () -> h.labelOf(1));
        Support.due("but in the newest", h.label(1, 4), 0);
        Support.due("an arc of it", h.arc(1, 0, 0, 0, 0), 0);
    }

    private static void states() {
        GraphHouse nodes = Support.withNodes(32);
        Support.unready("a 33rd node", () -> nodes.node(0));
        GraphHouse h = Support.withChanges(4000);
        Support.unready("node", () -> h.node(0));
        Support.unready("arc", () -> h.arc(0, 0, 0, 0, 0));
        Support.unready("take", () -> h.take(0));
        Support.unready("set", () -> h.set(0, 0, 0));
        Support.unready("label", () -> h.label(0, 0));
        Support.retype(h, " ".repeat(1000));
        Support.unready("type", () -> h.type(' '));
        Support.due("nothing else is refused", h.load() + " " + h.version() + " " + h.distance(0, 1), "0 4000 5");
    }

    private static void namedFirst() {
        GraphHouse nodes = Support.withNodes(32);
        Support.illegal("node", () -> nodes.node(26));
        GraphHouse h = Support.withChanges(4000);
        Support.illegal("node", () -> h.node(-1));
        Support.illegal("arc", () -> h.arc(2, 0, 0, 0, 0));
        Support.illegal("take", () -> h.take(1));
        Support.illegal("set", () -> h.set(1, 0, 0));
        Support.illegal("set", () -> h.set(0, -1, 0));
        Support.illegal("set", () -> h.set(0, 2, 26));
        Support.illegal("label", () -> h.label(2, 0));
        Support.illegal("label", () -> h.label(0, 26));
        Support.retype(h, " ".repeat(1000));
        Support.illegal("type", () -> h.type(31));
    }
}
