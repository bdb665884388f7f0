import java.util.regex.Pattern;

/** Promises 43 and 44: patterns, their faults, and the least walk that fits. */
public final class PatternsTest {
    public static void main(String[] args) {
        edges();
        faults();
        faultsByDice();
        fitsByDice();
        longWords();
        deepest();
        chain();
        Support.finish("PatternsTest");
    }

    private static void edges() {
        GraphHouse h = new GraphHouse();
        Support.illegal("no node", () -> h.fits(0, 0));
        h.node(0);
        h.node(0);
        h.arc(0, 1, 0, 0, 0);
        h.arc(1, 1, 0, 0, 25);
        for (int[] b : new int[][] {{-1, 0}, {0, -1}, {2, 0}, {0, 2}}) {
            Support.illegal("fits", () -> h.fits(b[0], b[1]));
        }
        Support.due("the empty pattern", h.fits(0, 0) + " " + h.fits(0, 1), "0 -1");
        Support.retype(h, "az*");
        Support.due("not yet", h.fits(0, 1), -1);
        Support.due("pattern", h.pattern(), 0);
        Support.due("the text stays", h.wipe(), 3);
        Support.due("taken", h.fits(0, 1) + " " + h.fits(0, 0) + " " + h.fits(1, 0), "1 -1 -1");
        Support.retype(h, "a**");
        Support.due("WRONG", h.pattern(), GraphHouse.WRONG);
        Support.due("as it was", h.fits(0, 1), 1);
        Support.retype(h, "azzz+");
        Support.due("pattern", h.pattern() + " " + h.fault(0) + " " + h.fault(1), "0 -1 -1");
        Support.due("three loops", h.fits(0, 1), 4);
        h.view(2);
        Support.due("of THE GRAPH", h.fits(0, 1), -1);
        h.wipe();
        Support.due("empty again", h.pattern() + " " + h.fits(1, 1), "0 0");
    }

    private static void wrong(String text, int fault, int place) {
        GraphHouse h = new GraphHouse();
        Support.retype(h, text);
        Support.due("pattern " + text, h.pattern(), GraphHouse.WRONG);
        Support.due("fault of " + text, h.fault(0) + " " + h.fault(1), fault + " " + place);
    }

    private static void good(String text) {
        GraphHouse h = new GraphHouse();
        Support.retype(h, text);
        Support.due("pattern " + text, h.pattern() + " " + h.fault(0) + " " + h.fault(1), "0 -1 -1");
    }

    private static void faults() {
        wrong(" ", 1, 0);
        wrong("a b", 1, 1);
        wrong("aA", 1, 1);
        wrong("a1", 1, 1);
        wrong("*", 2, 0);
        wrong("a|+", 2, 2);
        wrong("(?)", 2, 1);
        wrong("a*?", 2, 2);
        wrong("a+*", 2, 2);
        wrong(")", 2, 0);
        wrong("(a))", 2, 3);
        wrong("(a", 2, 2);
        wrong("((a)", 2, 4);
        wrong("(".repeat(10), 2, 10);
        wrong("(".repeat(11), 3, 10);
        wrong("(".repeat(10) + " ", 1, 10);
        wrong("a".repeat(61), 2, 60);
        wrong(" ".repeat(61), 2, 60);
        wrong("*" + "a".repeat(999), 2, 60);
        good("");
        good("|");
        good("()");
        good("()*");
        good("(|a|)?b.+");
        good("a".repeat(60));
        good("(".repeat(10) + ")".repeat(10));
        good("()()()()()()()()()()()()");
    }

    /** A second reading, by rewriting atoms until one sequence is left; it tells the first place by trying all prefixes. */
    private static void faultsByDice() {
        String signs = "ab.|*+?()()((  A";
        for (int seed = 0; seed < 20000; seed++) {
            Support.Dice d = new Support.Dice(seed);
            StringBuilder text = new StringBuilder();
            for (int i = d.below(12); i > 0; i--) {
                text.append(signs.charAt(d.below(signs.length() - (d.below(3) == 0 ? 0 : 3))));
            }
            GraphHouse h = new GraphHouse();
            Support.retype(h, text.toString());
            Support.due("'" + text + "'", h.pattern() + " " + h.fault(0) + " " + h.fault(1), expected(text.toString()));
        }
    }

    private static String expected(String text) {
        for (int i = 0; i < text.length(); i++) {
            if ("ab.|*+?()".indexOf(text.charAt(i)) < 0) {
                return "-4 1 " + i;
            }
            if (!canGoOn(text.substring(0, i + 1))) {
                return "-4 2 " + i;
            }
        }
        return whole(text) ? "0 -1 -1" : "-4 2 " + text.length();
    }

    private static boolean canGoOn(String text) {
        for (int i = 0; i <= text.length(); i++) {
            if (whole(text + ")".repeat(i))) {
                return true;
            }
        }
        return false;
    }

    private static boolean whole(String text) {
        String before = "";
        String now = text.replace('.', 'a').replace('b', 'a');
        while (!now.equals(before)) {
            before = now;
            now = now.replaceAll("\\((a[*+?]?|\\|)*\\)", "a");
        }
        return now.matches("(a[*+?]?|\\|)*");
    }

    /** Words of all walks of up to seven arcs, by Java's own patterns. */
    private static void fitsByDice() {
        for (int seed = 0; seed < 2500; seed++) {
            Support.Dice d = new Support.Dice(seed);
            Support.Mirror m = Support.byDice(d, d.from(1, 4), d.below(7), 0, 0, 0);
            String text = alternative(d, 3);
            if (text.length() > 60) {
                continue;
            }
            Support.retype(m.h, text);
            Support.due("pattern " + text, m.h.pattern(), 0);
            Pattern p = Pattern.compile(text);
            for (int s = 0; s < m.n(); s++) {
                int[] least = new int[m.n()];
                java.util.Arrays.fill(least, 99);
                words(m, s, "", p, least);
                for (int t = 0; t < m.n(); t++) {
                    int got = m.h.fits(s, t);
                    boolean fine = least[t] == 99 ? got == -1 || got > 7 : got == least[t];
                    Support.due(m + " " + text + " fits " + s + " " + t + " as " + got + ", least " + least[t], fine, true);
                }
            }
        }
    }

    private static void words(Support.Mirror m, int u, String word, Pattern p, int[] least) {
        if (word.length() < least[u] && p.matcher(word).matches()) {
            least[u] = word.length();
        }
        for (int[] a : m.arcs) {
            if (a != null && a[0] == u && word.length() < 7) {
                words(m, a[1], word + (char) ('a' + a[4]), p, least);
            }
        }
    }

    private static String alternative(Support.Dice d, int depth) {
        StringBuilder b = new StringBuilder(sequence(d, depth));
        while (d.below(3) == 0) {
            b.append('|').append(sequence(d, depth));
        }
        return b.toString();
    }

    private static String sequence(Support.Dice d, int depth) {
        StringBuilder b = new StringBuilder();
        for (int i = d.below(4); i > 0; i--) {
            int k = d.below(depth > 0 ? 7 : 5);
            b.append(k < 4 ? "" + (char) ('a' + d.below(3)) : k == 4 ? "." : "(" + alternative(d, depth - 1) + ")");
            b.append(new String[] {"", "", "*", "+", "?"}[d.below(5)]);
        }
        return b.toString();
    }

    /** Rings of lengths that have no common divisor: a word far longer than pattern or graph. */
    private static void longWords() {
        GraphHouse h = new GraphHouse();
        for (int i = 0; i < 31; i++) {
            h.node(0);
        }
        for (int i = 0; i < 31; i++) {
            h.arc(i, (i + 1) % 31, 0, 0, 0);
        }
        Support.retype(h, "(" + "a".repeat(57) + ")+");
        Support.due("pattern", h.pattern(), 0);
        Support.due("31 times 57", h.fits(0, 0), 31 * 57);
        Support.due("one arc on", h.fits(0, 57 % 31), 57);
        Support.retype(h, "(" + "a".repeat(57) + ")*");
        Support.due("pattern", h.pattern(), 0);
        Support.due("none", h.fits(0, 0), 0);
        Support.retype(h, ".".repeat(60));
        Support.due("pattern", h.pattern() + " " + h.fits(0, 60 % 31) + " " + h.fits(0, 0), "0 60 -1");
    }

    private static void chain() {
        GraphHouse h = new GraphHouse();
        for (int i = 0; i < 32; i++) {
            h.node(0);
        }
        for (int i = 0; i < 31; i++) {
            h.arc(i, i + 1, 0, 0, i % 2);
        }
        Support.retype(h, "(ab)*a");
        Support.due("31 arcs", h.pattern() + " " + h.fits(0, 31) + " " + h.fits(1, 31) + " " + h.fits(31, 31), "0 31 -1 -1");
        Support.retype(h, ".*");
        Support.due("any", h.pattern() + " " + h.fits(0, 31) + " " + h.fits(31, 0) + " " + h.fits(31, 31), "0 31 -1 0");
    }

    private static void deepest() {
        GraphHouse h = new GraphHouse();
        h.node(0);
        h.node(0);
        h.arc(0, 1, 0, 0, 25);
        Support.retype(h, "(a|".repeat(10) + "z" + ")".repeat(10));
        Support.due("pattern", h.pattern() + " " + h.fits(0, 1) + " " + h.fits(1, 0), "0 1 -1");
        Support.retype(h, "|".repeat(58) + "z|");
        Support.due("pattern", h.pattern() + " " + h.fits(0, 1) + " " + h.fits(0, 0), "0 1 0");
    }
}
