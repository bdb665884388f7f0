import java.math.BigInteger;
import java.util.ArrayList;
import java.util.List;

/** Promises 45 to 48: programs, their faults, runs, states and letters. */
public final class ProgramsTest {
    private static final BigInteger BOUND = BigInteger.TEN.pow(12);

    public static void main(String[] args) {
        edges();
        faults();
        faultsByDice();
        values();
        clipping();
        runs();
        runsByDice();
        letters();
        lettersByDice();
        Support.finish("ProgramsTest");
    }

    private static void edges() {
        GraphHouse h = new GraphHouse();
        int[][] bad = {{-1, 1, 0}, {201, 1, 0}, {0, 0, 0}, {0, 5, 0}, {0, 1, -1}, {0, 1, 91}};
        for (int[] b : bad) {
            Support.illegal("run", () -> h.run(b[0], b[1], b[2], 0));
        }
        Support.illegal("no run was", () -> h.state(0));
        Support.illegal("letters -1", () -> h.letters(-1));
        Support.illegal("letters 3", () -> h.letters(3));
        Support.due("an empty graph", h.run(200, 4, 90, 0), 1);
        Support.illegal("it had no node", () -> h.state(0));
        h.node(0);
        Support.illegal("the run had no node", () -> h.state(0));
        Support.due("no rounds", h.run(0, 1, 0, 0), 0);
        Support.due("state", h.state(0), 0);
        Support.illegal("state -1", () -> h.state(-1));
        Support.illegal("state 1", () -> h.state(1));
        Support.retype(h, "7+n;x");
        Support.due("program", h.program(), 0);
        Support.due("the text stays", h.wipe(), 5);
        Support.due("the latest run stays", h.state(0), 0);
        Support.due("run", h.run(5, 1, 0, 0) + " " + h.state(0), "1 7");
        h.node(0);
        h.view(0);
        Support.due("of THE GRAPH", h.run(3, 1, 0, 0), 1);
        Support.illegal("no node there", () -> h.state(0));
        h.view(2);
        Support.due("two nodes", h.run(3, 1, 0, 0) + " " + h.state(1), "1 8");
        h.view(0);
        Support.due("the run's nodes stay", h.state(1), 8);
        Support.retype(h, "7+n;");
        Support.due("WRONG", h.program(), GraphHouse.WRONG);
        h.view(1);
        Support.due("as it was", h.run(3, 1, 0, 0) + " " + h.state(0), "1 7");
        Support.illegal("a bad run changes nothing", () -> h.run(3, 9, 0, 0));
        Support.due("still", h.state(0), 7);
    }

    private static void wrong(String text, int fault, int place) {
        GraphHouse h = new GraphHouse();
        Support.retype(h, text);
        Support.due("program " + text, h.program(), GraphHouse.WRONG);
        Support.due("fault of " + text, h.fault(0) + " " + h.fault(1), fault + " " + place);
    }

    private static void good(String text) {
        GraphHouse h = new GraphHouse();
        Support.retype(h, text);
        Support.due("program " + text, h.program() + " " + h.fault(0) + " " + h.fault(1), "0 -1 -1");
    }

    private static void faults() {
        wrong("", 2, 0);
        wrong("   ", 2, 3);
        wrong("0", 2, 1);
        wrong("0;", 2, 2);
        wrong("0;0;", 2, 3);
        wrong("0;0 0", 2, 4);
        wrong("0;0x", 2, 3);
        wrong(";0", 2, 0);
        wrong("0;)", 2, 2);
        wrong("0;(0", 2, 4);
        wrong("0;(0;", 2, 4);
        wrong("0;0)", 2, 3);
        wrong("0<1<2;0", 2, 3);
        wrong("0=1<2;0", 2, 3);
        wrong("0;+1", 2, 2);
        wrong("0;1+*2", 2, 4);
        wrong("0;<1", 2, 2);
        wrong("0;A", 1, 2);
        wrong("0;1/2", 1, 3);
        wrong("0>1;0", 1, 1);
        wrong("0;1234567", 4, 2);
        wrong("0;1 1234567", 4, 4);
        wrong("1234567;A", 4, 0);
        wrong("0;y", 5, 2);
        wrong("0;1y", 2, 3);
        wrong("0;1+y", 5, 4);
        wrong("0;" + "(".repeat(11), 3, 12);
        wrong("0;" + "-".repeat(11) + "1", 3, 12);
        wrong("0;" + "(-".repeat(5) + "-1", 3, 12);
        wrong("0;" + "(-".repeat(5) + "y", 5, 12);
        wrong("0;" + "(-".repeat(5) + ")", 2, 12);
        wrong("0;" + "-".repeat(10), 2, 12);
        wrong("0".repeat(121), 2, 120);
        wrong("A" + " ".repeat(120), 2, 120);
        good("0;0");
        good("  12 ; x  ");
        good("0;" + "-".repeat(10) + "1");
        good("0;" + "(".repeat(10) + "1" + ")".repeat(10));
        good("0;-1-1-1-1-1-1-1-1-1-1-1-1-1-1");
        good("0;" + "-1+".repeat(38) + "-1");
        good("0;(1<2)<(3=4)");
        good("000000;999999");
        good("x+n+l+d+i+r+s+m+g;x*n*l*d*i*r*s*m*g");
        good("0;0" + " ".repeat(117));
        good("0;" + "1+".repeat(58) + "1 ");
    }

    /** A second reading: by a stack of what is open, token by token. */
    private static void faultsByDice() {
        String[] bits = {"x", "n", "y", "1", "23", "1234567", "+", "-", "-", "*", "<", "=", "(", "(", ")", ")", ";", " ", "A", "(-(-(-", "---", "1;x", "(x)"};
        for (int seed = 0; seed < 40000; seed++) {
            Support.Dice d = new Support.Dice(seed);
            StringBuilder text = new StringBuilder();
            for (int i = d.below(16); i > 0; i--) {
                text.append(bits[d.below(bits.length)]);
            }
            GraphHouse h = new GraphHouse();
            Support.retype(h, text.toString());
            Support.due("'" + text + "'", h.program() + " " + h.fault(0) + " " + h.fault(1), expected(text.toString()));
        }
        for (int seed = 0; seed < 5000; seed++) {
            Support.Dice d = new Support.Dice(seed);
            String text = expression(d, 4) + ";" + expression(d, 4);
            GraphHouse h = new GraphHouse();
            Support.retype(h, text);
            Support.due("'" + text + "'", h.program() + " " + h.fault(0) + " " + h.fault(1), expected(text));
        }
    }

    private static String expected(String text) {
        if (text.length() > 120) {
            return "-4 2 120";
        }
        StringBuilder open = new StringBuilder();
        boolean compared = false;
        List<Boolean> outer = new ArrayList<>();
        boolean factor = true;
        boolean second = false;
        int at = 0;
        while (true) {
            while (at < text.length() && text.charAt(at) == ' ') {
                at++;
            }
            if (at == text.length()) {
                return second && !factor && open.length() == 0 ? "0 -1 -1" : "-4 2 " + at;
            }
            int place = at;
            char c = text.charAt(at++);
            if ("abcdefghijklmnopqrstuvwxyz0123456789;<=+-*()".indexOf(c) < 0) {
                return "-4 1 " + place;
            }
            boolean atom = Character.isLetterOrDigit(c);
            while (Character.isDigit(c) && at < text.length() && Character.isDigit(text.charAt(at))) {
                at++;
            }
            if (at - place > 6) {
                return "-4 4 " + place;
            }
            if (factor) {
                if (!atom && c != '-' && c != '(') {
                    return "-4 2 " + place;
                }
                if (Character.isLetter(c) && "xnldirsmg".indexOf(c) < 0) {
                    return "-4 5 " + place;
                }
                if (!atom && open.length() >= 10) {
                    return "-4 3 " + place;
                }
                if (!atom) {
                    open.append(c);
                }
                if (c == '(') {
                    outer.add(compared);
                    compared = false;
                }
                factor = !atom;
            } else {
                boolean inside = open.indexOf("(") >= 0;
                if (atom || c == '(' || c == ')' && !inside || c == ';' && (inside || second) || (c == '<' || c == '=') && compared) {
                    return "-4 2 " + place;
                }
                if (c == ')') {
                    open.setLength(open.length() - 1);
                    compared = outer.remove(outer.size() - 1);
                } else {
                    factor = true;
                    second |= c == ';';
                    compared = c != ';' && (compared || c == '<' || c == '=');
                }
            }
            while (!factor && open.length() > 0 && open.charAt(open.length() - 1) == '-') {
                open.setLength(open.length() - 1);
            }
        }
    }

    private static String expression(Support.Dice d, int depth) {
        String sum = sum(d, depth);
        return d.below(4) == 0 ? sum + "<=".charAt(d.below(2)) + sum(d, depth) : sum;
    }

    private static String sum(Support.Dice d, int depth) {
        StringBuilder b = new StringBuilder(product(d, depth));
        while (d.below(3) == 0) {
            b.append("+-".charAt(d.below(2))).append(d.below(4) == 0 ? " " : "").append(product(d, depth));
        }
        return b.toString();
    }

    private static String product(Support.Dice d, int depth) {
        StringBuilder b = new StringBuilder(factor(d, depth));
        while (d.below(4) == 0) {
            b.append("*").append(factor(d, depth));
        }
        return b.toString();
    }

    private static String factor(Support.Dice d, int depth) {
        int k = d.below(depth > 0 ? 8 : 5);
        if (k < 2) {
            return "" + (d.below(3) == 0 ? d.below(1000000) : d.below(12));
        }
        if (k < 5) {
            return "" + "xnldirsmg".charAt(d.below(9));
        }
        return k == 5 ? "-" + factor(d, depth - 1) : "(" + expression(d, depth - 1) + ")";
    }

    /** What an expression is for node 1 of a fixed graph, in FIRST and in round 1. */
    private static void value(String expression, long first, long next) {
        GraphHouse h = new GraphHouse();
        h.node(3);
        h.node(4);
        h.node(5);
        h.arc(0, 1, 10, 0, 0);
        h.arc(0, 1, -20, 0, 0);
        h.arc(2, 1, 7, 0, 0);
        h.arc(1, 1, 1, 0, 0);
        h.arc(1, 0, 5, 0, 0);
        Support.retype(h, expression + "; 0");
        Support.due("program " + expression, h.program(), 0);
        h.run(0, 1, 0, 0);
        Support.due("FIRST " + expression, h.state(1), first);
        Support.retype(h, "100+n*n ; " + expression);
        h.program();
        h.run(1, 1, 0, 0);
        Support.due("NEXT " + expression, h.state(1), next);
    }

    private static void values() {
        value("x", 0, 101);
        value("n", 1, 1);
        value("l", 4, 4);
        value("d", 2, 2);
        value("i", 4, 4);
        value("r", 0, 1);
        value("s", 0, 100 + 100 + 104 + 101);
        value("m", -20, 80);
        value("g", 10, 111);
        value("1-2-3", -4, -4);
        value("1-2*3+4", -1, -1);
        value("-2*3", -6, -6);
        value("2*-3", -6, -6);
        value("--5", 5, 5);
        value("1<2", 1, 1);
        value("2<1", 0, 0);
        value("1+1=2", 1, 1);
        value("1=2", 0, 0);
        value("(3<2)+(2<3)*5", 5, 5);
        value("-(1-4)", 3, 3);
        value("007", 7, 7);
        GraphHouse h = new GraphHouse();
        h.node(0);
        Support.retype(h, "m+1;g-1");
        h.program();
        h.run(0, 1, 0, 0);
        Support.due("m without arcs", h.state(0), 1000000000000L);
        h.run(1, 1, 0, 0);
        Support.due("g without arcs", h.state(0), -1000000000000L);
    }

    private static void clipping() {
        long top = 1000000000000L;
        value("999999*999999*999999", top, top);
        value("-999999*999999*999999", -top, -top);
        value("999999*999999*-999999", -top, -top);
        value("999999*999999", 999998000001L, 999998000001L);
        value("999999*999999+999999*999999", top, top);
        value("999999*999999+999999*999999-1", top - 1, top - 1);
        value("-(999999*999999+999999*999999)-5", -top, -top);
        value("100000*100000*100+1-1", top - 1, top - 1);
        value("(100000*100000*100)*(100000*100000*100)", top, top);
        value("(100000*100000*100)*-(100000*100000*100)", -top, -top);
        value("0*(100000*100000*100)", 0, 0);
        value("(100000*100000*100)*1", top, top);
        value("500000*2000000".replace("2000000", "200000*10"), top, top);
        GraphHouse h = new GraphHouse();
        h.node(0);
        h.node(0);
        for (int i = 0; i < 3; i++) {
            h.arc(0, 1, 1000000, 0, 0);
        }
        h.arc(1, 1, -1000000, 0, 0);
        Support.retype(h, "(n*-2+1)*100000*100000*100;s");
        h.program();
        h.run(1, 1, 0, 0);
        // three times the top less once: brought in only behind the whole sum
        Support.due("s is brought in once", h.state(1), top);
        h.take(2);
        h.take(1);
        h.run(1, 1, 0, 0);
        Support.due("and 0 in the middle", h.state(1), 0);
        Support.retype(h, "(n*-2+1)*100000*100000*100;g*n-n");
        h.program();
        h.run(1, 1, 0, 0);
        Support.due("each of g is brought in", h.state(1), top - 1);
        Support.retype(h, "(n*-2+1)*100000*100000*100;m*n+n");
        h.program();
        h.run(1, 1, 0, 0);
        Support.due("each of m is brought in", h.state(1), -top + 1);
    }

    private static void runs() {
        GraphHouse h = new GraphHouse();
        for (int i = 0; i < 6; i++) {
            h.node(0);
        }
        for (int i = 0; i < 5; i++) {
            h.arc(i, i + 1, 2, 0, 0);
        }
        Support.retype(h, "(n=0)*0+(0<n)*999999; (m<x)*m+(1-(m<x))*x");
        Support.due("program", h.program(), 0);
        Support.due("least ways, and one round that changes none", h.run(200, 1, 0, 0), 6);
        Support.due("ends", h.state(0) + " " + h.state(5), "0 10");
        Support.due("just so many", h.run(5, 1, 0, 0) + " " + h.state(5), "5 10");
        Support.due("too few", h.run(4, 1, 0, 0) + " " + h.state(5) + " " + h.state(4), "4 999999 8");
        GraphHouse big = new GraphHouse();
        for (int i = 0; i < 32; i++) {
            big.node(i % 26);
        }
        for (int i = 0; i < 160; i++) {
            big.arc(i % 32, (i + 1) % 32, i, 0, 0);
        }
        Support.retype(big, "n ; s+d-l*0");
        Support.due("program", big.program(), 0);
        Support.due("a round of 32", big.run(1, 4, 0, 0) + " " + big.state(0) + " " + big.state(31), "1 160 155");
        Support.due("letters of 32", big.letters(0) + " " + big.letters(2), "32 1");
        Support.illegal("state 32", () -> big.state(32));
        Support.retype(h, "0;r");
        h.program();
        Support.due("never still", h.run(200, 1, 0, 0) + " " + h.state(3), "200 200");
        Support.retype(h, "1;x*(r<3)");
        h.program();
        Support.due("round 1 changes none", h.run(200, 1, 0, 0), 1);
    }

    private static void runsByDice() {
        for (int seed = 0; seed < 3000; seed++) {
            Support.Dice d = new Support.Dice(seed);
            Support.Mirror m = Support.byDice(d, d.from(0, 6), d.below(14), -1000, 1000, 3);
            String first = expression(d, 3);
            String next = expression(d, 3);
            String text = first + " ; " + next;
            Support.retype(m.h, text);
            if (m.h.program() != 0) {
                Support.due("'" + text + "'", text.length() > 120, true);
                continue;
            }
            int rounds = d.below(12);
            List<BigInteger> states = new ArrayList<>();
            for (int v = 0; v < m.n(); v++) {
                states.add(BigInteger.ZERO);
            }
            states = round(m, first, states, 0);
            int done = 0;
            boolean changed = true;
            while (done < rounds && changed) {
                done++;
                List<BigInteger> later = round(m, next, states, done);
                changed = !later.equals(states);
                states = later;
            }
            Support.due(m + " rounds of '" + text + "'", m.h.run(rounds, 1 + d.below(4), d.below(91), seed), done);
            for (int v = 0; v < m.n(); v++) {
                Support.due(m + " state " + v + " of '" + text + "'", m.h.state(v), states.get(v));
            }
        }
    }

    private static List<BigInteger> round(Support.Mirror m, String text, List<BigInteger> states, int r) {
        List<BigInteger> result = new ArrayList<>();
        for (int v = 0; v < m.n(); v++) {
            result.add(new Eval(m, text, states, v, r).expression());
        }
        return result;
    }

    private static BigInteger bring(BigInteger v) {
        return v.min(BOUND).max(BOUND.negate());
    }

    /** Reads and reckons at once, in whole numbers without bounds. */
    private static final class Eval {
        private final Support.Mirror m;
        private final String text;
        private final List<BigInteger> states;
        private final int node;
        private final int round;
        private int at = 0;

        Eval(Support.Mirror m, String text, List<BigInteger> states, int node, int round) {
            this.m = m;
            this.text = text.replace(" ", "");
            this.states = states;
            this.node = node;
            this.round = round;
        }

        private char peek() {
            return at < text.length() ? text.charAt(at) : '.';
        }

        BigInteger expression() {
            BigInteger a = sum();
            if (peek() == '<' || peek() == '=') {
                boolean less = text.charAt(at++) == '<';
                BigInteger b = sum();
                return (less ? a.compareTo(b) < 0 : a.equals(b)) ? BigInteger.ONE : BigInteger.ZERO;
            }
            return a;
        }

        private BigInteger sum() {
            BigInteger a = product();
            while (peek() == '+' || peek() == '-') {
                boolean plus = text.charAt(at++) == '+';
                BigInteger b = product();
                a = bring(plus ? a.add(b) : a.subtract(b));
            }
            return a;
        }

        private BigInteger product() {
            BigInteger a = factor();
            while (peek() == '*') {
                at++;
                a = bring(a.multiply(factor()));
            }
            return a;
        }

        private BigInteger factor() {
            char c = text.charAt(at++);
            if (c == '-') {
                return factor().negate();
            }
            if (c == '(') {
                BigInteger a = expression();
                at++;
                return a;
            }
            if (Character.isLetter(c)) {
                return name(c);
            }
            int begin = at - 1;
            while (Character.isDigit(peek())) {
                at++;
            }
            return new BigInteger(text.substring(begin, at));
        }

        private BigInteger name(char c) {
            BigInteger sum = BigInteger.ZERO;
            BigInteger least = BOUND;
            BigInteger most = BOUND.negate();
            int outs = 0;
            int ins = 0;
            for (int[] a : m.arcs) {
                if (a != null && a[1] == node) {
                    BigInteger state = states.get(a[0]);
                    ins++;
                    sum = sum.add(state);
                    least = least.min(bring(state.add(BigInteger.valueOf(a[2]))));
                    most = most.max(bring(state.add(BigInteger.valueOf(a[2]))));
                }
                outs += a != null && a[0] == node ? 1 : 0;
            }
            switch (c) {
                case 'x':
                    return states.get(node);
                case 'n':
                    return BigInteger.valueOf(node);
                case 'l':
                    return BigInteger.valueOf(m.labels.get(node));
                case 'd':
                    return BigInteger.valueOf(outs);
                case 'i':
                    return BigInteger.valueOf(ins);
                case 'r':
                    return BigInteger.valueOf(round);
                case 's':
                    return bring(sum);
                case 'm':
                    return least;
                default:
                    return most;
            }
        }
    }

    private static void letters() {
        GraphHouse h = new GraphHouse();
        for (int i = 0; i < 4; i++) {
            h.node(0);
        }
        h.arc(0, 1, 0, 0, 0);
        h.arc(0, 3, 0, 0, 0);
        h.arc(0, 2, 0, 0, 0);
        h.arc(1, 1, 0, 0, 0);
        h.arc(2, 3, 0, 0, 0);
        h.arc(2, 3, 0, 0, 0);
        Support.retype(h, "0;r");
        h.program();
        h.run(3, 1, 90, 5);
        Support.due("one worker", h.letters(0) + " " + h.letters(1) + " " + h.letters(2), "0 0 0");
        h.run(3, 2, 0, 5);
        Support.due("two workers: 0 and 2 write to worker 1", h.letters(0) + " " + h.letters(1) + " " + h.letters(2), "6 0 3");
        h.run(3, 4, 0, 5);
        Support.due("four workers", h.letters(0) + " " + h.letters(1) + " " + h.letters(2), "12 0 3");
        h.run(0, 4, 0, 5);
        Support.due("no rounds", h.letters(0) + " " + h.letters(1) + " " + h.letters(2), "0 0 0");
        h.run(200, 4, 90, Long.MIN_VALUE);
        Support.due("lost ones are sent again", h.letters(0) - h.letters(1), 800);
        Support.illegal("a bad run", () -> h.run(200, 4, 91, 0));
        Support.due("keeps the letters", h.letters(0) - h.letters(1), 800);
    }

    private static void lettersByDice() {
        for (int seed = 0; seed < 1500; seed++) {
            Support.Dice d = new Support.Dice(seed);
            Support.Mirror m = Support.byDice(d, d.from(0, d.below(5) == 0 ? 32 : 12), d.below(d.below(5) == 0 ? 160 : 30), 0, 0, 0);
            Support.retype(m.h, d.below(3) == 0 ? "n;s" : "0;r");
            Support.due("program", m.h.program(), 0);
            int k = d.from(1, 4);
            int loss = d.below(91);
            long start = (long) d.below(Integer.MAX_VALUE) * d.from(-5, 5) * 1000003L;
            int rounds = m.h.run(d.below(30), k, loss, start);
            List<String> row = new ArrayList<>();
            for (int w = 0; w < k; w++) {
                for (int u = w; u < m.n(); u += k) {
                    for (int o = 0; o < k; o++) {
                        boolean needs = false;
                        for (int[] a : m.arcs) {
                            needs |= a != null && a[0] == u && a[1] % k == o;
                        }
                        if (needs && o != w) {
                            row.add(u + " to " + o);
                        }
                    }
                }
            }
            long drawn = 0;
            int lost = 0;
            int turns = 0;
            for (int r = 0; r < rounds; r++) {
                List<String> waiting = row;
                while (!waiting.isEmpty()) {
                    turns++;
                    List<String> again = new ArrayList<>();
                    for (String letter : waiting) {
                        if (isLost(start, drawn++, loss)) {
                            again.add(letter);
                        }
                    }
                    lost += again.size();
                    waiting = again;
                }
            }
            Support.due(m + " letters with " + k + " " + loss + " " + start,
                m.h.letters(0) + " " + m.h.letters(1) + " " + m.h.letters(2), drawn + " " + lost + " " + turns);
        }
    }

    private static boolean isLost(long seed, long j, int loss) {
        BigInteger full = BigInteger.ONE.shiftLeft(64);
        BigInteger z = BigInteger.valueOf(seed).add(new BigInteger("9E3779B97F4A7C15", 16).multiply(BigInteger.valueOf(j + 1))).mod(full);
        z = z.xor(z.shiftRight(30)).multiply(new BigInteger("BF58476D1CE4E5B9", 16)).mod(full);
        z = z.xor(z.shiftRight(27)).multiply(new BigInteger("94D049BB133111EB", 16)).mod(full);
        z = z.xor(z.shiftRight(31));
        return z.shiftRight(33).mod(BigInteger.valueOf(100)).intValue() < loss;
    }
}
