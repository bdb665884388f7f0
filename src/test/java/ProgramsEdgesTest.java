import java.math.BigInteger;
import java.util.ArrayList;
import java.util.List;

/** The boundary cases of promises 45 to 48, and of what the terms say of programs and runs: sentence by sentence. */
public final class ProgramsEdgesTest {
    private static final int WRONG = GraphHouse.WRONG;
    private static final long BOUND = 1000000000000L;
    /** 1000000000000 by numbers of six digits. */
    private static final String GREATEST = "(999999*999999+999999+999999+1)";

    public static void main(String[] args) {
        Sentences doc = new Sentences(args);
        grammar(doc);
        faults(doc);
        runs(doc);
        calls(doc);
        doc.finish("ProgramsEdgesTest", 45, 48, "PROGRAMS", "A RUN", "SPLIT");
    }

    private static void grammar(Sentences doc) {
        int terms = Sentences.TERMS;
        doc.test(terms, "A PROGRAM is a text of at most 120 characters (codes 32 .. 126)", ProgramsEdgesTest::hundredAndTwenty);
        doc.test(terms, "FIRST ; NEXT, two expressions", ProgramsEdgesTest::twoExpressions);
        doc.test(terms, "a sum, < or = , and a sum (1 if so, else 0)", ProgramsEdgesTest::comparing);
        doc.test(terms, "products with + or - between, from the left on", ProgramsEdgesTest::fromTheLeft);
        doc.test(terms, "factors with * between", ProgramsEdgesTest::products);
        doc.test(terms, "a number (one to six digits)", ProgramsEdgesTest::digits);
        doc.test(terms, "- and a factor", ProgramsEdgesTest::minus);
        doc.test(terms, "or an expression in ( )", ProgramsEdgesTest::inParentheses);
        doc.test(terms, "NAMES (one letter): x the state, n the node's number, l its label", ProgramsEdgesTest::ownNames);
        doc.test(terms, "d its arcs out, i its arcs in (loops are both)", ProgramsEdgesTest::arcNames);
        doc.test(terms, "r the round (0 for FIRST)", ProgramsEdgesTest::roundName);
        doc.test(terms, "s the sum of the states of the nodes from which arcs come to it (each arc once)", ProgramsEdgesTest::sumName);
        doc.test(terms, "m the least, g the greatest of these states, to each of which its arc's weight is added",
            ProgramsEdgesTest::leastAndGreatest);
        doc.test(terms, "(m 1000000000000, g -1000000000000 without such arcs)", ProgramsEdgesTest::withoutSuchArcs);
        doc.test(terms, "Blanks may stand between tokens, before the first and behind the last one", ProgramsEdgesTest::blanks);
        doc.test(terms, "What an operation gives is brought into -1000000000000 .. 1000000000000 (the nearer end)",
            ProgramsEdgesTest::operations);
        doc.test(terms, "so are s (once, behind the whole sum)", ProgramsEdgesTest::wholeSum);
        doc.test(terms, "and each state with a weight in m and g", ProgramsEdgesTest::withWeights);
    }

    private static void faults(Sentences doc) {
        int terms = Sentences.TERMS;
        doc.test(terms, "FAULTS as of patterns (of tokens: numbers, small letters, one each, and the signs)", ProgramsEdgesTest::strayAndWrong);
        doc.test(terms, "with 4 a number of more than six digits", ProgramsEdgesTest::digits);
        doc.test(terms, "5 a letter that is no name (where a factor must be)", ProgramsEdgesTest::noNames);
        doc.test(terms, "3 a ( or a - of a factor within ten others of both", ProgramsEdgesTest::tenOthers);
        doc.test(terms, "Of one token 1 and 4 come first, then 2, 5, 3", ProgramsEdgesTest::ofOneToken);
        doc.test(terms, "PLACE the first character of the token", ProgramsEdgesTest::places);
    }

    private static void runs(Sentences doc) {
        int terms = Sentences.TERMS;
        doc.test(terms, "(x, s, m and g are as if all states were 0)", ProgramsEdgesTest::asIfZero);
        doc.test(terms, "then in each round r = 1, 2, .. NEXT gives all nodes new states, by those before", ProgramsEdgesTest::byThoseBefore);
        doc.test(terms, "it ends behind a round that changes none (which was done, too)", ProgramsEdgesTest::endsByItself);
        doc.test(terms, "or behind so many rounds", ProgramsEdgesTest::endsByRounds);
        doc.test(terms, "SPLIT over k WORKERS (1 .. 4), worker w having the nodes whose number by k leaves w", ProgramsEdgesTest::workers);
        doc.test(terms, "to each other worker, from 0 on, that has a node to which an arc comes from it", ProgramsEdgesTest::oneForEachWorker);
        doc.test(terms, "Letters are DRAWN one by one, all in a row since the run began", ProgramsEdgesTest::drawnInARow);
        doc.test(terms, "(64 bits, running over)", ProgramsEdgesTest::runningOver);
        doc.test(terms, "it is lost if (z >>> 33) % 100 is below LOSS then", ProgramsEdgesTest::losses);
        doc.test(terms, "those of the round that are lost are sent again, in their order, as new letters, till none is",
            ProgramsEdgesTest::drawnInARow);
        doc.test(terms, "each such sending is a TURN (one without letters is none)", ProgramsEdgesTest::turns);
        doc.test(terms, "States are the same as without a split", ProgramsEdgesTest::sameStates);
    }

    private static void calls(Sentences doc) {
        doc.test(45, "THE TEXT becomes the program (it stays): 0", ProgramsEdgesTest::textStays);
        doc.test(45, "WRONG (the program is as it was)", ProgramsEdgesTest::asItWas);
        doc.test(45, "More than 120 characters are a 2 at place 120", ProgramsEdgesTest::hundredAndTwenty);
        doc.test(45, "which is looked at before all else", ProgramsEdgesTest::lengthFirst);
        doc.test(46, "A RUN on THE GRAPH", ProgramsEdgesTest::onTheGraph);
        doc.test(46, "of at most so many rounds (0 .. 200)", ProgramsEdgesTest::roundBounds);
        doc.test(46, "SPLIT over k workers, LOSS 0 .. 90, a SEED", ProgramsEdgesTest::workerBounds);
        doc.test(46, "how many rounds were done", ProgramsEdgesTest::endsByItself);
        doc.test(46, "Illegal argument", ProgramsEdgesTest::refusedRuns);
        doc.test(47, "A node's state behind the latest run", ProgramsEdgesTest::latestRun);
        doc.test(47, "Illegal argument: it had no such node", ProgramsEdgesTest::noSuchNode);
        doc.test(47, "or there was none", () -> Support.illegal("state", () -> Support.withNodes(1).state(0)));
        doc.test(48, "Of the latest run: what = 0 the LETTERS that were sent (lost ones, too), 1 those that were lost, 2 the TURNS",
            ProgramsEdgesTest::latestLetters);
        doc.test(48, "0 before any", () -> Support.due("letters", lettersOf(Support.withNodes(2)), "0 0 0"));
        doc.test(48, "Illegal argument", ProgramsEdgesTest::lettersOutside);
    }

    private static void adopt(GraphHouse h, String text) {
        Support.retype(h, text);
        Support.due("program " + text, h.program(), 0);
        Support.due("its fault: " + text, h.fault(0) + " " + h.fault(1), "-1 -1");
    }

    private static void bad(String text, int fault, int place) {
        GraphHouse h = new GraphHouse();
        Support.retype(h, text);
        Support.due("program " + text, h.program(), WRONG);
        Support.due("its fault: " + text, h.fault(0) + " at " + h.fault(1), fault + " at " + place);
    }

    /** What an expression gives for a node alone. */
    private static void gives(String expression, long due) {
        GraphHouse h = Support.withNodes(1);
        adopt(h, expression + ";0");
        h.run(0, 1, 0, 0);
        Support.due(expression, h.state(0), due);
    }

    private static String lettersOf(GraphHouse h) {
        return h.letters(0) + " " + h.letters(1) + " " + h.letters(2);
    }

    private static String statesOf(GraphHouse h) {
        StringBuilder b = new StringBuilder();
        for (int v = 0; v < h.size(0); v++) {
            b.append(h.state(v)).append(' ');
        }
        return b.toString().trim();
    }

    // ---- the grammar

    private static void hundredAndTwenty() {
        GraphHouse h = Support.withNodes(1);
        adopt(h, "1" + "+1".repeat(58) + ";7 ");
        h.run(0, 1, 0, 0);
        Support.due("120 characters", h.wipe() + " " + h.state(0), "120 59");
        bad("1" + "+1".repeat(58) + ";7  ", 2, 120);
        bad("1;1" + " ".repeat(118), 2, 120);
        adopt(h, "1;1" + " ".repeat(117));
        bad(" ".repeat(121), 2, 120);
        bad(" ".repeat(120), 2, 120);
    }

    private static void twoExpressions() {
        gives("5", 5);
        GraphHouse h = Support.withNodes(1);
        adopt(h, "5;6");
        h.run(1, 1, 0, 0);
        Support.due("NEXT", h.state(0), 6);
        bad("", 2, 0);
        bad("5", 2, 1);
        bad("5;", 2, 2);
        bad(";5", 2, 0);
        bad(";", 2, 0);
        bad("5;6;", 2, 3);
        bad("5;6;7", 2, 3);
        bad("5 6", 2, 2);
        bad("5;6 7", 2, 4);
    }

    private static void comparing() {
        gives("1<2", 1);
        gives("2<2", 0);
        gives("3<2", 0);
        gives("2=2", 1);
        gives("2=3", 0);
        gives("1+1<1*3", 1);
        gives("-1<0", 1);
        gives("(1<2)<2", 1);
        gives("(1=1)+(2=2)", 2);
        bad("1<2<3;0", 2, 3);
        bad("1=2<3;0", 2, 3);
        bad("1<=2;0", 2, 2);
        bad("1<;0", 2, 2);
        bad("<1;0", 2, 0);
    }

    private static void fromTheLeft() {
        gives("9-3-2", 4);
        gives("9-3+2", 8);
        gives("1-2*3", -5);
        gives("9-(3-2)", 8);
        gives("1" + "-1".repeat(50), -49);
        bad("1+;0", 2, 2);
        bad("+1;0", 2, 0);
    }

    private static void products() {
        gives("2*3*4", 24);
        gives("2+3*4", 14);
        gives("(2+3)*4", 20);
        gives("2*-3", -6);
        bad("2**3;0", 2, 2);
        bad("*3;0", 2, 0);
        bad("2 3;0", 2, 2);
        bad("2x;0", 2, 1);
        bad("2(3);0", 2, 1);
    }

    private static void digits() {
        gives("0", 0);
        gives("999999", 999999);
        gives("000001", 1);
        bad("1000000;0", 4, 0);
        bad("0000001;0", 4, 0);
        bad("1+ 1234567;0", 4, 3);
        bad("99999999999999999999;0", 4, 0);
        gives("123456-654321", -530865);
    }

    private static void minus() {
        gives("-5", -5);
        gives("--5", 5);
        gives("1--1", 2);
        gives("1---1", 0);
        gives("-2*-3", 6);
        gives("-(2+3)", -5);
        gives("- 5", -5);
        gives("-2-3", -5);
        bad("-;0", 2, 1);
        bad("1-;0", 2, 2);
    }

    private static void inParentheses() {
        gives("(((7)))", 7);
        gives("(1<2)*5", 5);
        bad("();0", 2, 1);
        bad("(1;0", 2, 2);
        bad("(1", 2, 2);
        bad("1);0", 2, 1);
        bad("(1));0", 2, 3);
    }

    // ---- names

    private static void ownNames() {
        GraphHouse h = Support.withNodes(31);
        h.node(25);
        adopt(h, "n*100+l;x+1");
        h.run(0, 1, 0, 0);
        Support.due("node 31 of label 25", h.state(31), 3125);
        Support.due("node 0 of label 0", h.state(0), 0);
        h.run(3, 1, 0, 0);
        Support.due("the state", h.state(31), 3128);
    }

    private static void arcNames() {
        GraphHouse h = Support.withNodes(2);
        h.arc(0, 0, 0, 0, 0);
        h.arc(0, 1, 0, 0, 0);
        h.arc(0, 1, 0, 0, 0);
        adopt(h, "d*1000+i;0");
        h.run(0, 1, 0, 0);
        Support.due("out and in", statesOf(h), "3001 2");
        for (int i = 3; i < 160; i++) {
            h.arc(1, 1, 0, 0, 0);
        }
        h.run(0, 1, 0, 0);
        Support.due("157 loops", h.state(1), 157159);
    }

    private static void roundName() {
        GraphHouse h = Support.withNodes(1);
        adopt(h, "r;r");
        h.run(0, 1, 0, 0);
        Support.due("0 for FIRST", h.state(0), 0);
        Support.due("rounds", h.run(200, 1, 0, 0), 200);
        Support.due("200", h.state(0), 200);
    }

    private static void sumName() {
        GraphHouse h = Support.withNodes(3);
        h.arc(0, 2, 7, 0, 0);
        h.arc(0, 2, 7, 0, 0);
        h.arc(1, 2, 7, 0, 0);
        h.arc(2, 2, 7, 0, 0);
        adopt(h, "n+1;s");
        h.run(1, 1, 0, 0);
        Support.due("each arc once, without weights; 0 without arcs", statesOf(h), "0 0 7");
    }

    private static void leastAndGreatest() {
        GraphHouse h = Support.withNodes(3);
        h.arc(0, 2, 5, 0, 0);
        h.arc(0, 2, -1000000, 0, 0);
        h.arc(1, 2, 1000000, 0, 0);
        adopt(h, "n*10;m");
        h.run(1, 1, 0, 0);
        Support.due("m", h.state(2), -1000000);
        adopt(h, "n*10;g");
        h.run(1, 1, 0, 0);
        Support.due("g", h.state(2), 1000010);
        h.arc(2, 2, -1000000, 0, 0);
        adopt(h, "-n;m");
        h.run(1, 1, 0, 0);
        Support.due("by a loop, too", h.state(2), -1000002);
    }

    private static void withoutSuchArcs() {
        GraphHouse h = Support.withNodes(2);
        h.arc(0, 1, 0, 0, 0);
        adopt(h, "m;m");
        h.run(0, 1, 0, 0);
        Support.due("m of FIRST", h.state(0), BOUND);
        h.run(1, 1, 0, 0);
        Support.due("m of NEXT", h.state(0), BOUND);
        adopt(h, "g;g");
        h.run(0, 1, 0, 0);
        Support.due("g of FIRST", h.state(0), -BOUND);
        h.run(1, 1, 0, 0);
        Support.due("g of NEXT", h.state(0), -BOUND);
    }

    private static void blanks() {
        gives("   1   +   2   ", 3);
        gives(" ( - 1 ) * 2 < 3 ", 1);
        GraphHouse h = Support.withNodes(1);
        adopt(h, " 1 ; 2 ");
        bad("12 34;0", 2, 3);
        bad("x x;0", 2, 2);
        bad("   ", 2, 3);
    }

    // ---- bounds of values

    private static void operations() {
        gives(GREATEST, BOUND);
        gives("-" + GREATEST, -BOUND);
        gives(GREATEST + "+1", BOUND);
        gives(GREATEST + "+1-1", BOUND - 1);
        gives("-" + GREATEST + "-1", -BOUND);
        gives("-" + GREATEST + "-1+1", -BOUND + 1);
        gives(GREATEST + "*2", BOUND);
        gives(GREATEST + "*-2", -BOUND);
        gives("999999*999999", 999998000001L);
        gives("999999*999999*999999", BOUND);
        gives("-999999*999999*999999", -BOUND);
        gives(GREATEST + "*" + GREATEST, BOUND);
        gives("-" + GREATEST + "*" + GREATEST, -BOUND);
        gives("-" + GREATEST + "*-" + GREATEST, BOUND);
        gives(GREATEST + "*1", BOUND);
        gives(GREATEST + "*0", 0);
        gives("0*" + GREATEST, 0);
        gives(GREATEST + "=" + GREATEST + "+1", 1);
        gives(GREATEST + "<" + GREATEST + "+1", 0);
        // 2 to the 20th and 2 to the 22nd, again and again: no run over 64 bits
        gives("64*64*64*64*64*64*64*64*64*64*64", BOUND);
    }

    private static void wholeSum() {
        GraphHouse h = Support.withNodes(4);
        Support.chain(h, 0, 3);
        Support.chain(h, 1, 3);
        Support.chain(h, 2, 3);
        adopt(h, GREATEST + "*(1-2*(n=2));s");
        h.run(1, 1, 0, 0);
        Support.due("two at one end, then one at the other", h.state(3), BOUND);
        h.arc(2, 3, 0, 0, 0);
        h.run(1, 1, 0, 0);
        Support.due("two and two", h.state(3), 0);
        h.arc(2, 3, 0, 0, 0);
        h.arc(2, 3, 0, 0, 0);
        h.run(1, 1, 0, 0);
        Support.due("two and four", h.state(3), -BOUND);
        GraphHouse full = Support.withNodes(1);
        for (int i = 0; i < 160; i++) {
            full.arc(0, 0, 0, 0, 0);
        }
        adopt(full, GREATEST + ";s");
        full.run(1, 1, 0, 0);
        Support.due("160 of the greatest", full.state(0), BOUND);
    }

    private static void withWeights() {
        GraphHouse h = Support.withNodes(2);
        h.arc(0, 1, 1000000, 0, 0);
        adopt(h, GREATEST + ";g");
        h.run(1, 1, 0, 0);
        Support.due("above the end", h.state(1), BOUND);
        h.set(0, 0, -1000000);
        h.run(1, 1, 0, 0);
        Support.due("below it", h.state(1), BOUND - 1000000);
        adopt(h, "-" + GREATEST + ";m");
        h.run(1, 1, 0, 0);
        Support.due("below the other end", h.state(1), -BOUND);
        h.arc(0, 1, 1000000, 0, 0);
        adopt(h, "-" + GREATEST + ";g");
        h.run(1, 1, 0, 0);
        Support.due("within", h.state(1), -BOUND + 1000000);
    }

    // ---- faults

    private static void strayAndWrong() {
        for (char c = 32; c <= 126; c++) {
            if ("abcdefghijklmnopqrstuvwxyz0123456789;<=+-*() ".indexOf(c) < 0) {
                bad("" + c, 1, 0);
                bad("1;1" + c, 1, 3);
                bad("1+" + c, 1, 2);
            }
        }
        bad("1;)", 2, 2);
        bad("1;1#)", 1, 3);
        bad("1;1)#", 2, 3);
        bad("1;x<", 2, 4);
    }

    private static void noNames() {
        for (char c = 'a'; c <= 'z'; c++) {
            if ("xnldirsmg".indexOf(c) < 0) {
                bad(c + ";0", 5, 0);
                bad("1;-(2*" + c + ")", 5, 6);
                bad("1" + c, 2, 1);
            } else {
                gives("0*" + c, 0);
                bad("1" + c, 2, 1);
                bad("xx;0", 2, 1);
            }
        }
    }

    private static void tenOthers() {
        gives("(".repeat(10) + "7" + ")".repeat(10), 7);
        bad("(".repeat(11) + "7" + ")".repeat(11) + ";0", 3, 10);
        gives("-".repeat(10) + "7", 7);
        bad("-".repeat(11) + "7;0", 3, 10);
        gives("-(".repeat(5) + "7" + ")".repeat(5), -7);
        bad("-(".repeat(5) + "-7" + ")".repeat(5) + ";0", 3, 10);
        bad("(-".repeat(5) + "(7)" + ")".repeat(5) + ";0", 3, 10);
        gives("(".repeat(10) + "1-1-1-1" + ")".repeat(10), -2);
        gives("-".repeat(10) + "7-" + "-".repeat(10) + "7", 0);
        gives("(".repeat(10) + "7" + ")".repeat(10) + "-" + "(".repeat(10) + "7" + ")".repeat(10), 0);
        GraphHouse h = Support.withNodes(1);
        adopt(h, "(".repeat(10) + "7" + ")".repeat(10) + ";" + "(".repeat(10) + "7" + ")".repeat(10));
        bad("1;" + "(".repeat(11), 3, 12);
        bad("-".repeat(10) + "(7);0", 3, 10);
        bad("-".repeat(11) + "#", 3, 10);
    }

    private static void ofOneToken() {
        String ten = "(".repeat(10);
        bad(ten + "#", 1, 10);
        bad(ten + "1234567", 4, 10);
        bad("1 1234567;0", 4, 2);
        bad("1;1 1234567", 4, 4);
        bad("(1 1234567", 4, 3);
        bad("1 #", 1, 2);
        bad("1 a;0", 2, 2);
        bad(ten + "1(", 2, 11);
        bad(ten + ")", 2, 10);
        bad(ten + "a", 5, 10);
        bad(ten + "(a", 3, 10);
    }

    private static void places() {
        bad("   #", 1, 3);
        bad("1 +   1234567;0", 4, 6);
        bad("1 +   a;0", 5, 6);
        bad("1 +   ;0", 2, 6);
        bad("1;   ", 2, 5);
        bad("1;0   )", 2, 6);
        bad("- ".repeat(11) + "1", 3, 20);
    }

    private static void lengthFirst() {
        bad("#" + " ".repeat(120), 2, 120);
        bad("1234567" + " ".repeat(120), 2, 120);
        bad("(".repeat(121), 2, 120);
        bad("#" + " ".repeat(119), 1, 0);
    }

    // ---- runs

    private static void asIfZero() {
        GraphHouse h = Support.withNodes(2);
        h.arc(0, 1, 7, 0, 0);
        h.arc(0, 1, -3, 0, 0);
        adopt(h, "5;5");
        h.run(1, 1, 0, 0);
        adopt(h, "x*100000+s*10000+m*100+g;0");
        h.run(0, 1, 0, 0);
        Support.due("m and g are the weights", h.state(1), -300 + 7);
    }

    private static void byThoseBefore() {
        GraphHouse h = Support.withNodes(3);
        Support.chain(h, 0, 1, 2, 0);
        adopt(h, "n;s");
        h.run(1, 1, 0, 0);
        Support.due("all at once", statesOf(h), "2 0 1");
        h.run(2, 1, 0, 0);
        Support.due("twice", statesOf(h), "1 2 0");
        Support.due("three times", h.run(3, 1, 0, 0) + ": " + statesOf(h), "3: 0 1 2");
    }

    private static void endsByItself() {
        GraphHouse h = Support.withNodes(2);
        adopt(h, "0;0");
        Support.due("none at once", h.run(200, 1, 0, 0), 1);
        adopt(h, "0;1");
        Support.due("one, then none", h.run(200, 1, 0, 0), 2);
        adopt(h, "0;x+(x<5)");
        Support.due("five, then none", h.run(200, 1, 0, 0) + ": " + h.state(0), "6: 5");
        adopt(h, "0;x+(x<5)*n");
        Support.due("one node is enough", h.run(200, 1, 0, 0) + ": " + statesOf(h), "6: 0 5");
        adopt(h, "0;(r<3)");
        Support.due("it ends before it would change", h.run(200, 1, 0, 0) + ": " + h.state(0), "2: 1");
        Support.due("of no nodes", new GraphHouse().run(200, 1, 0, 0), 1);
        adopt(h, GREATEST + ";x+1");
        Support.due("at the end of all numbers", h.run(200, 1, 0, 0), 1);
    }

    private static void endsByRounds() {
        GraphHouse h = Support.withNodes(2);
        adopt(h, "0;x+(x<5)");
        for (int rounds = 0; rounds <= 8; rounds++) {
            Support.due("of " + rounds, h.run(rounds, 1, 0, 0), Math.min(rounds, 6));
            Support.due("its states", h.state(1), Math.min(rounds, 5));
        }
    }

    private static void roundBounds() {
        GraphHouse h = Support.withNodes(1);
        adopt(h, "3;x+1");
        Support.due("0", h.run(0, 1, 0, 0) + ": " + h.state(0), "0: 3");
        Support.due("200", h.run(200, 1, 0, 0) + ": " + h.state(0), "200: 203");
        // ends by itself, so that a bound that is not kept is told and not waited for
        adopt(h, "3;3");
        for (int bad : Support.outside(0, 200)) {
            Support.illegal("rounds " + bad, () -> h.run(bad, 1, 0, 0));
        }
        Support.due("0 of no nodes", new GraphHouse().run(0, 1, 0, 0), 0);
    }

    private static void workerBounds() {
        GraphHouse h = Support.withNodes(2);
        Support.chain(h, 0, 1);
        for (int k = 1; k <= 4; k++) {
            Support.due("workers " + k, h.run(1, k, 0, 0), 1);
        }
        Support.due("the greatest loss", h.run(1, 2, 90, 0), 1);
        for (int bad : Support.outside(1, 4)) {
            Support.illegal("workers " + bad, () -> h.run(1, bad, 0, 0));
        }
        for (int bad : Support.outside(0, 90)) {
            Support.illegal("loss " + bad, () -> h.run(1, 1, bad, 0));
        }
        long[] seeds = {Long.MIN_VALUE, -1, 0, 1, Long.MAX_VALUE};
        for (long seed : seeds) {
            Support.due("seed " + seed, h.run(1, 2, 50, seed), 1);
        }
    }

    private static void refusedRuns() {
        GraphHouse h = Support.withNodes(3);
        Support.chain(h, 0, 1, 2);
        adopt(h, "n;x+s");
        h.run(2, 2, 50, 3);
        String before = statesOf(h) + ", " + lettersOf(h);
        Support.illegal("rounds", () -> h.run(201, 1, 0, 0));
        Support.illegal("workers", () -> h.run(1, 5, 0, 0));
        Support.illegal("loss", () -> h.run(1, 1, 91, 0));
        Support.due("the latest run is as it was", statesOf(h) + ", " + lettersOf(h), before);
    }

    private static void onTheGraph() {
        GraphHouse h = Support.withNodes(2);
        Support.chain(h, 0, 1);
        adopt(h, "i+10*d;x");
        h.view(2);
        h.run(0, 1, 0, 0);
        Support.due("before the arc", statesOf(h), "0 0");
        h.view(-1);
        Support.due("asked later, it is still that run", statesOf(h), "0 0");
        h.run(0, 1, 0, 0);
        Support.due("with the arc", statesOf(h), "10 1");
        h.view(0);
        Support.due("of no nodes", h.run(5, 4, 90, 1), 1);
        Support.illegal("it has no states", () -> h.state(0));
    }

    private static void latestRun() {
        GraphHouse h = Support.withNodes(1);
        adopt(h, "7;x");
        h.run(1, 1, 0, 0);
        adopt(h, "8;x");
        Support.due("a program is no run", h.state(0), 7);
        h.label(0, 3);
        h.node(0);
        Support.due("nor is a change", h.state(0), 7);
        h.view(0);
        Support.due("nor is a view", h.state(0), 7);
        h.view(-1);
        h.run(1, 1, 0, 0);
        Support.due("the next run", h.state(0) + " " + h.state(1), "8 8");
    }

    private static void noSuchNode() {
        GraphHouse h = Support.withNodes(2);
        h.run(0, 1, 0, 0);
        for (int bad : Support.outside(0, 1)) {
            Support.illegal("node " + bad, () -> h.state(bad));
        }
        h.node(0);
        Support.illegal("a node that came behind the run", () -> h.state(2));
        h.run(0, 1, 0, 0);
        Support.due("now it is there", h.state(2), 0);
        h.view(1);
        Support.due("though THE GRAPH has it no longer", h.state(2), 0);
        h.run(0, 1, 0, 0);
        Support.illegal("and now the run hasn't", () -> h.state(1));
        GraphHouse all = Support.withNodes(32);
        all.run(0, 1, 0, 0);
        Support.due("the last of 32", all.state(31), 0);
        Support.illegal("the 33rd", () -> all.state(32));
    }

    // ---- letters

    /** The letters by the words of the document, with whole numbers that are cut to 64 bits. */
    private static String lettersByWords(int[][] arcs, int nodes, int rounds, int k, int loss, long seed) {
        List<int[]> each = new ArrayList<>();
        for (int w = 0; w < k; w++) {
            for (int u = w; u < nodes; u += k) {
                for (int other = 0; other < k; other++) {
                    boolean needed = false;
                    for (int[] arc : arcs) {
                        needed |= arc[0] == u && arc[1] % k == other;
                    }
                    if (other != w && needed) {
                        each.add(new int[] {u, other});
                    }
                }
            }
        }
        int sent = 0;
        int lost = 0;
        int turns = 0;
        for (int r = 0; r < rounds; r++) {
            List<int[]> waiting = each;
            while (!waiting.isEmpty()) {
                List<int[]> again = new ArrayList<>();
                for (int[] letter : waiting) {
                    if (isLost(sent, loss, seed)) {
                        again.add(letter);
                        lost++;
                    }
                    sent++;
                }
                turns++;
                waiting = again;
            }
        }
        return sent + " " + lost + " " + turns;
    }

    private static final BigInteger ALL = BigInteger.ONE.shiftLeft(64);

    private static boolean isLost(int j, int loss, long seed) {
        BigInteger step = new BigInteger("9E3779B97F4A7C15", 16).multiply(BigInteger.valueOf(j + 1));
        BigInteger z = BigInteger.valueOf(seed).add(step).mod(ALL);
        z = z.xor(z.shiftRight(30)).multiply(new BigInteger("BF58476D1CE4E5B9", 16)).mod(ALL);
        z = z.xor(z.shiftRight(27)).multiply(new BigInteger("94D049BB133111EB", 16)).mod(ALL);
        z = z.xor(z.shiftRight(31));
        return z.shiftRight(33).mod(BigInteger.valueOf(100)).intValue() < loss;
    }

    /** Nodes of a ring with some arcs across; the states change in each round. */
    private static int[][] ringArcs(int nodes) {
        int[][] arcs = new int[2 * nodes][];
        for (int i = 0; i < 2 * nodes; i++) {
            arcs[i] = new int[] {i % nodes, (i * i + 1 + i) % nodes};
        }
        return arcs;
    }

    private static GraphHouse ringHouse(int[][] arcs, int nodes) {
        GraphHouse h = Support.withNodes(nodes);
        for (int[] arc : arcs) {
            h.arc(arc[0], arc[1], 0, 0, 0);
        }
        adopt(h, "n;x+1+s*0");
        return h;
    }

    private static void compareLetters(int nodes, int rounds, int k, int loss, long seed) {
        int[][] arcs = ringArcs(nodes);
        GraphHouse h = ringHouse(arcs, nodes);
        Support.due("rounds", h.run(rounds, k, loss, seed), rounds);
        Support.due(nodes + " nodes, " + rounds + " rounds, " + k + " workers, loss " + loss + ", seed " + seed, lettersOf(h),
            lettersByWords(arcs, nodes, rounds, k, loss, seed));
    }

    private static void workers() {
        GraphHouse h = Support.withNodes(5);
        Support.chain(h, 0, 4);
        adopt(h, "0;x+1");
        h.run(1, 1, 90, 0);
        Support.due("one worker sends none", lettersOf(h), "0 0 0");
        h.run(1, 2, 0, 0);
        Support.due("0 and 4 by 2 leave 0", lettersOf(h), "0 0 0");
        h.run(1, 3, 0, 0);
        Support.due("4 by 3 leaves 1", lettersOf(h), "1 0 1");
        h.run(1, 4, 0, 0);
        Support.due("4 by 4 leaves 0", lettersOf(h), "0 0 0");
        GraphHouse two = Support.withNodes(2);
        Support.chain(two, 0, 1);
        adopt(two, "0;x+1");
        two.run(3, 4, 0, 0);
        Support.due("workers without nodes", lettersOf(two), "3 0 3");
    }

    private static void oneForEachWorker() {
        GraphHouse h = Support.withNodes(8);
        adopt(h, "0;x+1");
        Support.chain(h, 0, 1);
        Support.chain(h, 0, 1);
        Support.chain(h, 0, 5);
        h.run(1, 4, 0, 0);
        Support.due("one worker, three arcs", lettersOf(h), "1 0 1");
        Support.chain(h, 0, 2);
        Support.chain(h, 0, 3);
        h.run(1, 4, 0, 0);
        Support.due("three workers", lettersOf(h), "3 0 1");
        Support.chain(h, 0, 4);
        Support.chain(h, 0, 0);
        h.run(1, 4, 0, 0);
        Support.due("none to oneself", lettersOf(h), "3 0 1");
        Support.chain(h, 4, 1);
        h.run(10, 4, 0, 0);
        Support.due("ten rounds", lettersOf(h), "40 0 10");
        h.run(0, 4, 0, 0);
        Support.due("before a round alone", lettersOf(h), "0 0 0");
    }

    private static void drawnInARow() {
        for (int k = 2; k <= 4; k++) {
            for (int rounds = 1; rounds < 5; rounds++) {
                compareLetters(7, rounds, k, 50, 12345);
                compareLetters(32, rounds, k, 90, 99);
            }
        }
        compareLetters(32, 200, 4, 90, 7);
    }

    private static void runningOver() {
        long[] seeds = {Long.MIN_VALUE, Long.MIN_VALUE + 1, -1, 0, 1, Long.MAX_VALUE, 0x9E3779B97F4A7C15L, -0x9E3779B97F4A7C15L};
        for (long seed : seeds) {
            compareLetters(9, 3, 3, 50, seed);
        }
    }

    private static void losses() {
        int[] losses = {0, 1, 2, 49, 50, 51, 89, 90};
        for (int loss : losses) {
            compareLetters(16, 5, 4, loss, 4242);
        }
        GraphHouse h = ringHouse(ringArcs(16), 16);
        h.run(5, 4, 0, 4242);
        Support.due("none is lost by 0", h.letters(1), 0);
    }

    private static void turns() {
        GraphHouse h = Support.withNodes(4);
        adopt(h, "0;x+1");
        h.run(9, 4, 90, 5);
        Support.due("nine rounds without letters", lettersOf(h), "0 0 0");
        Support.chain(h, 0, 1);
        h.run(9, 2, 0, 5);
        Support.due("nine of one letter each", lettersOf(h), "9 0 9");
        h.run(9, 1, 0, 5);
        Support.due("one worker", lettersOf(h), "0 0 0");
        h.run(9, 2, 90, 5);
        Support.due("one letter in each turn", h.letters(2), h.letters(0));
        Support.due("all but nine are lost", h.letters(0) - h.letters(1), 9);
    }

    private static void sameStates() {
        int[][] arcs = ringArcs(13);
        GraphHouse h = ringHouse(arcs, 13);
        adopt(h, "n*n;m-g+s*2+x");
        h.run(12, 1, 0, 0);
        String alone = statesOf(h);
        for (int k = 2; k <= 4; k++) {
            h.run(12, k, 90, k);
            Support.due("split over " + k, statesOf(h), alone);
        }
    }

    private static void latestLetters() {
        int[][] arcs = ringArcs(6);
        GraphHouse h = ringHouse(arcs, 6);
        h.run(4, 3, 60, 8);
        String due = lettersByWords(arcs, 6, 4, 3, 60, 8);
        Support.due("lost ones, too", lettersOf(h), due);
        h.node(0);
        adopt(h, "0;0");
        Support.due("of the latest run", lettersOf(h), due);
        h.run(4, 3, 0, 8);
        Support.due("it ends behind one round", lettersOf(h), lettersByWords(arcs, 6, 1, 3, 0, 8));
        h.run(0, 3, 60, 8);
        Support.due("of no round", lettersOf(h), "0 0 0");
    }

    private static void lettersOutside() {
        for (int bad : Support.outside(0, 2)) {
            Support.illegal("letters " + bad, () -> new GraphHouse().letters(bad));
        }
    }

    // ---- the program itself

    private static void textStays() {
        GraphHouse h = Support.withNodes(1);
        adopt(h, "1;2");
        Support.due("it stays", h.type('3'), 4);
        h.run(1, 1, 0, 0);
        Support.due("typing changes no program", h.state(0), 2);
        Support.due("taken again", h.program(), 0);
        Support.due("wiping changes no program", h.wipe(), 4);
        h.run(1, 1, 0, 0);
        Support.due("1;23", h.state(0), 23);
    }

    private static void asItWas() {
        GraphHouse h = Support.withNodes(1);
        adopt(h, "1;x+2");
        String[] texts = {"", "7", "7;", "7;8)", "7;8;9", "7;a", "7;1234567", "7;#", "7;8" + " ".repeat(120), "7;" + "-".repeat(11) + "8"};
        for (String text : texts) {
            Support.retype(h, text);
            Support.due("program", h.program(), WRONG);
            h.run(1, 1, 0, 0);
            Support.due("still 1;x+2", h.state(0), 3);
            Support.due("it stays", h.wipe(), text.length());
        }
    }
}
