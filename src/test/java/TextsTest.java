/** Promises 13 to 18: THE TEXT, loading it, its faults, and THE PRINT. */
public final class TextsTest {
    public static void main(String[] args) {
        typing();
        loading();
        faults();
        leftovers();
        nothingByHalves();
        prints();
        faultsByDice();
        roundTrips();
        Support.finish("TextsTest");
    }

    private static void typing() {
        GraphHouse h = new GraphHouse();
        Support.illegal("31", () -> h.type(31));
        Support.illegal("127", () -> h.type(127));
        Support.illegal("-1", () -> h.type(-1));
        for (int i = 1; i <= 1000; i++) {
            Support.due("type", h.type(32 + i % 95), i);
        }
        Support.unready("1001st", () -> h.type(32));
        Support.illegal("argument before state", () -> h.type(127));
        Support.due("wipe", h.wipe(), 1000);
        Support.due("wipe again", h.wipe(), 0);
        Support.due("type", h.type(126), 1);
        Support.due("type", h.type(32), 2);
    }

    private static void loads(String text, int count, String print) {
        GraphHouse h = new GraphHouse();
        Support.retype(h, text);
        Support.due("load of " + text, h.load(), count);
        Support.due("version of " + text, h.version(), count);
        Support.due("no fault of " + text, h.fault(0) + " " + h.fault(1), "-1 -1");
        Support.due("print of " + text, Support.printOf(h), print);
        Support.due("the text stays", h.wipe(), text.length());
    }

    private static void loading() {
        loads("", 0, "");
        loads("    ", 0, "");
        loads("n a;", 1, "n a;");
        loads("na;", 1, "n a;");
        loads("  n   z  ;  ", 1, "n z;");
        loads("na;nb;a0 1-5 3c;", 3, "n a;n b;a 0 1 -5 3 c;");
        loads("na;a 0000000 -0000000 -1000000 1000000 z;", 2, "n a;a 0 0 -1000000 1000000 z;");
        loads("na;a0 0 1 1a;a0 0 2 2b;t0;a0 0 3 3c;w1-7;", 6, "n a;a 0 0 3 3 c;a 0 0 -7 2 b;");
        loads("na;a0-0 0 0a;", 2, "n a;a 0 0 0 0 a;");
    }

    private static void wrong(String text, int fault, int place) {
        GraphHouse h = new GraphHouse();
        Support.retype(h, text);
        Support.due("load of " + text, h.load(), GraphHouse.WRONG);
        Support.due("fault of " + text, h.fault(0) + " " + h.fault(1), fault + " " + place);
        Support.due("nothing is done", h.version() + " " + Support.printOf(h), "0 ");
    }

    private static void faults() {
        wrong("n A;", 1, 2);
        wrong("#", 1, 0);
        wrong("n a;-", 1, 4);
        wrong("t - 1;", 1, 2);
        wrong("t --1;", 1, 2);
        wrong("t -a;", 1, 2);
        wrong("n", 2, 1);
        wrong("n  ", 2, 3);
        wrong("n a", 2, 3);
        wrong(";", 2, 0);
        wrong("n a;;", 2, 4);
        wrong("x a;", 2, 0);
        wrong("7;", 2, 0);
        wrong("n 7;", 2, 2);
        wrong("nab;", 2, 2);
        wrong("n;", 2, 1);
        wrong("n a;a 0 0 0 a;", 2, 12);
        wrong("n a;a 0 0 0 0 0;", 2, 14);
        wrong("t a;", 2, 2);
        wrong("t 1 2;", 2, 4);
        wrong("w 1;", 2, 3);
        wrong("w 1 2 3;", 2, 6);
        wrong("12345678", 3, 0);
        wrong("x12345678", 2, 0);
        wrong("n 12345678;", 3, 2);
        wrong("t  -00000001;", 3, 3);
        wrong("n a12345678;", 3, 3);
        wrong("n a;t 0;", 4, 4);
        wrong("n a; t -1 ;", 4, 5);
        wrong("a 0 0 0 0 a;", 4, 0);
        wrong("n a;a 0 1 0 0 a;n b;", 4, 4);
        wrong("n a;a 0 0 1000001 0 a;", 4, 4);
        wrong("n a;a 0 0 0 -1 a;", 4, 4);
        wrong("n a;a 0 0 0 1000001 a;", 4, 4);
        wrong("n a;a 0 0 0 0 a;w 0 -1000001;", 4, 16);
        wrong("n a;a 0 0 0 0 a;w 1 1;", 4, 16);
        wrong("n a;a 0 0 0 0 a;t 0;t 0;", 4, 20);
        wrong("t 0 #;", 1, 4);
        wrong("t 0; #", 4, 0);
        wrong("n a;".repeat(33), 4, 128);
        wrong("na;" + "a0 0 0 0a;".repeat(99) + "###", 1, 993);
    }

    /** What stood behind THE TEXT before it was wiped is not read. */
    private static void leftovers() {
        GraphHouse h = new GraphHouse();
        Support.retype(h, "n a;   t 0;");
        Support.retype(h, "n a");
        Support.due("a ; that was", h.load() + " " + h.fault(0) + " " + h.fault(1), "-4 2 3");
        Support.retype(h, "n          ");
        Support.retype(h, "n");
        Support.due("blanks that were", h.load() + " " + h.fault(0) + " " + h.fault(1), "-4 2 1");
        Support.retype(h, "w 0 123");
        Support.retype(h, "w 0 1");
        Support.due("digits that were", h.load() + " " + h.fault(0) + " " + h.fault(1), "-4 2 5");
        Support.retype(h, " ".repeat(1000));
        Support.due("1000 blanks", h.load(), 0);
        Support.retype(h, "1".repeat(1000));
        Support.due("1000 digits", h.load() + " " + h.fault(0) + " " + h.fault(1), "-4 3 0");
        Support.retype(h, "n a;" + " ".repeat(995) + "-");
        Support.due("a - at the very end", h.load() + " " + h.fault(0) + " " + h.fault(1), "-4 1 999");
        Support.retype(h, " ".repeat(995) + "n a ;");
        Support.due("a command at the very end", h.load(), 1);
    }

    private static void nothingByHalves() {
        GraphHouse h = new GraphHouse();
        Support.illegal("fault 2", () -> h.fault(2));
        Support.illegal("fault -1", () -> h.fault(-1));
        h.node(5);
        h.arc(0, 0, 1, 2, 3);
        h.distance(0, 0);
        Support.retype(h, "n a;a 0 1 -5 1 a;t 0;w 1 3;n b;t 0;");
        Support.due("load", h.load(), GraphHouse.WRONG);
        Support.due("fault", h.fault(0) + " " + h.fault(1), "4 31");
        Support.due("as before", h.version() + " " + Support.printOf(h), "2 n f;a 0 0 1 2 d;");
        Support.due("the next version is another one", h.arc(0, 0, -1, 2, 3), 1);
        Support.due("and is asked anew", h.distance(0, 0), GraphHouse.FALLING);
        h.view(1);
        Support.retype(h, "t 0;");
        Support.due("load changes the newest", h.load(), 1);
        Support.due("the view stays", h.size(1) + " " + h.version(), "0 4");
        h.view(GraphHouse.NONE);
        Support.due("newest", h.size(1), 1);
        Support.due("fault of a good one", h.fault(0) + " " + h.fault(1), "-1 -1");
        GraphHouse full = new GraphHouse();
        full.node(0);
        for (int i = 0; i < 159; i++) {
            full.arc(0, 0, 0, 0, 0);
        }
        Support.retype(full, "a0 0 0 0a;a0 0 0 0a;");
        Support.due("no place", full.load(), GraphHouse.WRONG);
        Support.due("fault", full.fault(0) + " " + full.fault(1), "4 10");
        Support.retype(full, "a0 0 0 0a;t5;a0 0 0 0a;");
        Support.due("a place again", full.load(), 3);
    }

    private static void prints() {
        GraphHouse h = new GraphHouse();
        Support.due("empty", h.print(), 0);
        Support.illegal("printed 0", () -> h.printed(0));
        h.node(25);
        h.arc(0, 0, -1000000, 1000000, 25);
        Support.illegal("none was made since", () -> h.printed(0));
        Support.due("print", Support.printOf(h), "n z;a 0 0 -1000000 1000000 z;");
        h.take(0);
        Support.due("stays as made", h.printed(4), (int) 'a');
        Support.illegal("printed -1", () -> h.printed(-1));
        Support.illegal("printed behind", () -> h.printed(29));
        Support.due("print is of THE GRAPH", h.view(0) + " " + h.print(), "0 0");
        GraphHouse big = new GraphHouse();
        StringBuilder want = new StringBuilder();
        for (int i = 0; i < 32; i++) {
            big.node(25);
            want.append("n z;");
        }
        for (int i = 0; i < 160; i++) {
            big.arc(31, 30, -1000000, 1000000, 25);
            want.append("a 31 30 -1000000 1000000 z;");
        }
        Support.due("the longest print", Support.printOf(big), want);
    }

    /** A second reading: tokens first, then the shapes of commands; what can be done is left to the calls. */
    private static void faultsByDice() {
        String[] bits = {
            "n", "a", "t", "w", "b", " ", " ", ";", ";", "0", "1", "-1", "-", "12345678", "7777777", "#", "x",
            "n a;", "n b;", "a 0 0 1 1 a;", "a 0 1 2 3 b;", "t 0;", "w 0 5;", "a0 1", "0 1c;",
        };
        for (int seed = 0; seed < 20000; seed++) {
            Support.Dice d = new Support.Dice(seed);
            StringBuilder text = new StringBuilder(d.below(3) == 0 ? "n a;n b;" : "");
            for (int i = d.below(9); i >= 0; i--) {
                text.append(bits[d.below(bits.length)]);
            }
            GraphHouse h = new GraphHouse();
            Support.retype(h, text.toString());
            int got = h.load();
            Support.due("'" + text + "'", got + " " + h.fault(0) + " " + h.fault(1), expected(text.toString()));
            Support.due("'" + text + "' version", h.version(), Math.max(0, got));
        }
    }

    private static String expected(String text) {
        GraphHouse plain = new GraphHouse();
        java.util.regex.Matcher m = java.util.regex.Pattern.compile(" *(?:(-?[0-9]+)|([a-z])|(;)|([^ ]))").matcher(text);
        String row = "";
        java.util.List<String> words = new java.util.ArrayList<>();
        int done = 0;
        int begin = 0;
        int at = 0;
        while (m.find(at) && m.start() == at) {
            int place = m.start(1) >= 0 ? m.start(1) : m.start(2) >= 0 ? m.start(2) : m.start(3) >= 0 ? m.start(3) : m.start(4);
            at = m.end();
            String word = text.substring(place, at);
            if (m.group(4) != null) {
                return "-4 1 " + place;
            }
            if (m.group(1) != null && word.replace("-", "").length() > 7) {
                return "-4 3 " + place;
            }
            if (row.isEmpty()) {
                begin = place;
            }
            row += m.group(1) != null ? "0" : row.isEmpty() || m.group(3) != null ? word : "l";
            words.add(word);
            boolean viable = false;
            for (String shape : new String[] {"nl;", "a0000l;", "t0;", "w00;"}) {
                viable |= shape.startsWith(row);
            }
            if (!viable) {
                return "-4 2 " + place;
            }
            if (word.equals(";")) {
                if (!does(plain, words)) {
                    return "-4 4 " + begin;
                }
                done++;
                row = "";
                words.clear();
            }
        }
        return row.isEmpty() ? done + " -1 -1" : "-4 2 " + text.length();
    }

    private static boolean does(GraphHouse h, java.util.List<String> w) {
        try {
            switch (w.get(0)) {
                case "n":
                    h.node(w.get(1).charAt(0) - 'a');
                    return true;
                case "a":
                    return h.arc(Integer.parseInt(w.get(1)), Integer.parseInt(w.get(2)), Integer.parseInt(w.get(3)),
                        Integer.parseInt(w.get(4)), w.get(5).charAt(0) - 'a') != GraphHouse.FULL;
                case "t":
                    h.take(Integer.parseInt(w.get(1)));
                    return true;
                default:
                    h.set(Integer.parseInt(w.get(1)), 0, Integer.parseInt(w.get(2)));
                    return true;
            }
        } catch (IllegalArgumentException | IllegalStateException e) {
            return false;
        }
    }

    private static void roundTrips() {
        for (int seed = 0; seed < 200; seed++) {
            Support.Dice d = new Support.Dice(seed);
            Support.Mirror m = Support.byDice(d, d.from(1, 8), d.below(25), -1000000, 1000000, 1000000);
            String print = Support.printOf(m.h);
            GraphHouse again = new GraphHouse();
            Support.retype(again, print);
            Support.due("load of a print", again.load(), m.h.size(0) + m.h.size(1));
            Support.due("sizes", again.size(0) + " " + again.size(1) + " " + again.size(2),
                m.h.size(0) + " " + m.h.size(1) + " " + m.h.size(2));
        }
    }
}
