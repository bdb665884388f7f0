import java.lang.reflect.InvocationTargetException;
import java.lang.reflect.Method;
import java.util.ArrayList;
import java.util.List;

/**
 * All questions in whatever order, with changes and views between: each is answered as a fresh object answers it
 * that has made the changes of that version alone. And whatever arguments are given, only what the face names is thrown.
 */
public final class MixTest {
    private static final String[] ASKED = {
        "size", "told", "labelOf", "arcAt", "print", "distance", "way", "width", "shorts", "shortArc", "part", "bridge", "cut",
        "order", "core", "clique", "colour", "flow", "side", "cost", "pairing", "tree", "span", "trees", "rank", "shortest",
        "group", "gain", "figures", "fits", "run",
    };
    private static final int[] WILD = {
        -2147483648, -1000001, -5, -4, -3, -2, -1, 0, 1, 2, 3, 4, 5, 13, 25, 26, 31, 32, 40, 41, 59, 90, 91, 97, 126, 127, 159,
        160, 200, 201, 1000000, 1000001, 200000000, 200000001, 2147483647,
    };

    public static void main(String[] args) throws Exception {
        for (int seed = 0; seed < 250; seed++) {
            mix(new Support.Dice(seed), seed);
        }
        for (int seed = 0; seed < 400; seed++) {
            wild(new Support.Dice(seed));
        }
        for (int seed = 0; seed < 1500; seed++) {
            twins(new Support.Dice(seed));
        }
        for (int seed = 0; seed < 30; seed++) {
            fullHouse(new Support.Dice(seed));
        }
        Support.finish("MixTest");
    }

    private static Method method(String name) {
        for (Method m : GraphHouse.class.getDeclaredMethods()) {
            if (m.getName().equals(name)) {
                return m;
            }
        }
        throw new AssertionError(name);
    }

    private static String outcome(GraphHouse h, Method m, Object[] args) throws Exception {
        try {
            return String.valueOf(m.invoke(h, args));
        } catch (InvocationTargetException e) {
            return e.getCause().getClass().getSimpleName();
        }
    }

    private static Object[] arguments(Method m, Support.Dice d, int[] from) {
        Object[] args = new Object[m.getParameterCount()];
        for (int i = 0; i < args.length; i++) {
            int v = from == null ? d.below(d.below(4) == 0 ? 40 : 5) : from[d.below(from.length)];
            if (m.getParameterTypes()[i] == long.class) {
                args[i] = (long) v * 1234567890123L;
            } else {
                args[i] = v;
            }
        }
        return args;
    }

    private static void mix(Support.Dice d, int seed) throws Exception {
        GraphHouse h = new GraphHouse();
        List<int[]> changes = new ArrayList<>();
        String[] texts = {"a*b?c*", "n;s+m"};
        adopt(h, texts);
        int most = d.from(2, 7);
        int viewed = -1;
        for (int i = 0; i < 120; i++) {
            int before = h.version();
            int deed = d.below(10);
            if (deed < 3) {
                int[] change = {d.below(4), d.below(most), d.below(most), d.from(-3, 6), d.below(5), d.below(3)};
                if (apply(h, change, most) && h.version() > before) {
                    changes.add(change);
                }
            } else if (deed == 3) {
                viewed = d.below(3) == 0 ? -1 : d.below(3) == 0 ? h.version() : d.below(h.version() + 1);
                Support.due("view", h.view(viewed), viewed < 0 ? h.version() : viewed);
            } else {
                Method m = method(ASKED[d.below(ASKED.length)]);
                Object[] args = arguments(m, d, null);
                GraphHouse fresh = new GraphHouse();
                for (int k = 0; k < (viewed < 0 ? changes.size() : viewed); k++) {
                    apply(fresh, changes.get(k), most);
                }
                adopt(fresh, texts);
                Support.due("seed " + seed + " call " + i + " " + m.getName() + java.util.Arrays.toString(args),
                    outcome(h, m, args), outcome(fresh, m, args));
                int now = viewed < 0 ? h.version() : viewed;
                Support.due("print of version " + now, Support.printOf(h), Support.printOf(fresh));
            }
        }
    }

    /** The same version asked as the newest and by its number: what is kept of the one serves the other. */
    private static void twins(Support.Dice d) throws Exception {
        Support.Mirror m = Support.byDice(d, d.from(3, 5), d.from(4, 9), 1, 5, 3);
        GraphHouse fresh = new GraphHouse();
        Support.retype(fresh, m.toString());
        fresh.load();
        adopt(m.h, new String[] {"a*b?c*", "n;s+m"});
        adopt(fresh, new String[] {"a*b?c*", "n;s+m"});
        String[] free = {"distance", "clique", "shorts", "flow", "group", "core", "rank"};
        Object[] ends = {d.below(3), d.below(3)};
        for (String name : free) {
            Method first = method(name);
            Object[] args = first.getParameterCount() == 1 ? new Object[] {0} : ends;
            outcome(m.h, first, args);
        }
        m.h.view(m.h.version());
        for (String name : new String[] {"colour", "gain", "cost", "part", "cut", "order", "fits", "run", "width"}) {
            Method then = method(name);
            Object[] args = arguments(then, d, null);
            if (args.length > 1 && name.equals("cost")) {
                args[0] = ends[0];
                args[1] = ends[1];
            }
            Support.due(m + " " + name + java.util.Arrays.toString(args), outcome(m.h, then, args), outcome(fresh, then, args));
        }
        GraphHouse plain = new GraphHouse();
        Support.retype(plain, m.toString());
        plain.load();
        m.h.view(GraphHouse.NONE);
        m.h.label(0, m.labels.get(0));
        m.h.distance((int) ends[0], (int) ends[1]);
        m.h.view(m.h.version());
        // places differ where the graph has gaps, weights do not
        int place = m.h.way((int) ends[0], (int) ends[1], 0);
        int other = plain.way((int) ends[0], (int) ends[1], 0);
        Support.due(m + " way", place < 0 ? "none" : m.h.told(place, 1) + " " + m.h.told(place, 2) + " " + m.h.told(place, 3),
            other < 0 ? "none" : plain.told(other, 1) + " " + plain.told(other, 2) + " " + plain.told(other, 3));
    }

    /** 32 nodes and 160 arcs: good arguments throw nothing, and a second object answers the same. */
    private static void fullHouse(Support.Dice d) throws Exception {
        GraphHouse[] both = {new GraphHouse(), new GraphHouse()};
        int close = d.from(4, 32);
        for (GraphHouse h : both) {
            for (int i = 0; i < 32; i++) {
                h.node(i * 5 % 26);
            }
            adopt(h, new String[] {"(a|b.)*(c?a)+", "n;s+m"});
        }
        for (int i = 0; i < 160; i++) {
            int u = 31 - d.below(close);
            int v = 31 - d.below(close);
            int weight = d.from(-2, 9);
            int room = d.below(9);
            int kind = d.below(3);
            for (GraphHouse h : both) {
                Support.due("place", h.arc(u, v, weight, room, kind), i);
            }
        }
        both[1].view(192);
        for (String name : ASKED) {
            Method m = method(name);
            for (int i = 0; i < 10; i++) {
                Object[] args = arguments(m, d, new int[] {31, 30, 29, 31 - close / 2, 0, 1});
                if (name.equals("run")) {
                    args = new Object[] {d.below(20), d.from(1, 4), d.below(91), (long) i};
                }
                String got = outcome(both[0], m, args);
                Support.due(name + java.util.Arrays.toString(args), outcome(both[1], m, args), got);
                Support.due(name + " throws " + got, got.endsWith("Error") || got.endsWith("Exception")
                    && !got.equals("IllegalArgumentException"), false);
            }
        }
        for (GraphHouse h : both) {
            Support.due("last ones", h.span(159) || h.bridge(159) || h.part(1, 31) >= 0, true);
        }
    }

    private static void adopt(GraphHouse h, String[] texts) {
        Support.retype(h, texts[0]);
        h.pattern();
        Support.retype(h, texts[1]);
        h.program();
    }

    private static boolean apply(GraphHouse h, int[] c, int most) {
        try {
            if (h.version() < most) {
                h.node(c[3] + 3);
            } else if (c[0] < 2) {
                h.arc(c[1], c[2], c[3], c[4], c[5]);
            } else if (c[0] == 2) {
                h.take(c[1]);
            } else {
                h.set(c[2], 0, c[3]);
            }
            return true;
        } catch (IllegalArgumentException e) {
            return false;
        }
    }

    private static void wild(Support.Dice d) throws Exception {
        GraphHouse h = new GraphHouse();
        Method[] all = GraphHouse.class.getDeclaredMethods();
        List<Method> face = new ArrayList<>();
        for (Method m : all) {
            if (java.lang.reflect.Modifier.isPublic(m.getModifiers())) {
                face.add(m);
            }
        }
        face.sort((a, b) -> a.getName().compareTo(b.getName()));
        String text = "nabc;na;a0 1 2 3d;(a|b)*.+?01;x<=-*s;";
        for (int i = 0; i < 512; i++) {
            int deed = d.below(8);
            if (deed == 0) {
                h.type(text.charAt(d.below(text.length())));
            } else if (deed == 1) {
                int n = h.view(GraphHouse.NONE) >= 0 ? h.size(0) : 0;
                if (n > 0) {
                    h.arc(d.below(n), d.below(n), d.from(-9, 9), d.below(9), d.below(3));
                }
            } else {
                Method m = face.get(d.below(face.size()));
                Object[] args = arguments(m, d, WILD);
                int version = h.version();
                String got = outcome(h, m, args);
                boolean thrown = got.endsWith("Exception") || got.endsWith("Error");
                boolean fine = !thrown || got.equals("IllegalArgumentException") && throwsOf(m, 0)
                    || got.equals("IllegalStateException") && throwsOf(m, 1);
                Support.due(m.getName() + java.util.Arrays.toString(args) + " " + got, fine, true);
                Support.due(m.getName() + " changes nothing when it throws", thrown && h.version() != version, false);
            }
        }
    }

    private static boolean throwsOf(Method m, int i) {
        return m.getExceptionTypes().length > i;
    }
}
