/** The boundary cases of promises 43 and 44, and of what the terms say of questions: sentence by sentence. */
public final class PatternsEdgesTest {
    private static final int NONE = GraphHouse.NONE;
    private static final int WRONG = GraphHouse.WRONG;

    public static void main(String[] args) {
        Sentences doc = new Sentences(args);
        grammar(doc);
        faults(doc);
        calls(doc);
        doc.finish("PatternsEdgesTest", 43, 44, "QUESTIONS");
    }

    private static void grammar(Sentences doc) {
        int terms = Sentences.TERMS;
        doc.test(terms, "A PATTERN is a text of at most 60 characters", PatternsEdgesTest::sixty);
        doc.test(terms, "without blanks (codes 33 .. 126)", PatternsEdgesTest::blanks);
        doc.test(terms, "SEQUENCES with | between, one at least", PatternsEdgesTest::alternatives);
        doc.test(terms, "a sequence: no, one or more REPEATS", PatternsEdgesTest::emptySequences);
        doc.test(terms, "a repeat: an ATOM, perhaps *, + or ? behind it", PatternsEdgesTest::oneSign);
        doc.test(terms, "a small letter (a KIND, a is 0)", PatternsEdgesTest::letters);
        doc.test(terms, ". (any kind)", PatternsEdgesTest::anyKind);
        doc.test(terms, "or an alternative in ( )", PatternsEdgesTest::inParentheses);
        doc.test(terms, "| either", PatternsEdgesTest::alternatives);
        doc.test(terms, "a sequence its repeats one behind the other", PatternsEdgesTest::sequences);
        doc.test(terms, "* any number of times (also none)", PatternsEdgesTest::star);
        doc.test(terms, "+ once or more often", PatternsEdgesTest::plus);
        doc.test(terms, "? once or not", PatternsEdgesTest::mark);
        doc.test(terms, "A walk FITS if the kinds of its arcs, one behind the other, are such a word", PatternsEdgesTest::sequences);
    }

    private static void faults(Sentences doc) {
        int terms = Sentences.TERMS;
        doc.test(terms, "1 a character that is none of these", PatternsEdgesTest::strayCharacters);
        doc.test(terms, "2 one that can't be there", PatternsEdgesTest::cantBeThere);
        doc.test(terms, "(or the end of the text)", PatternsEdgesTest::theEnd);
        doc.test(terms, "3 a ( within ten others", PatternsEdgesTest::tenOthers);
    }

    private static void calls(Sentences doc) {
        doc.test(43, "THE TEXT becomes the pattern (it stays): 0", PatternsEdgesTest::textStays);
        doc.test(43, "THE TEXT becomes the pattern", PatternsEdgesTest::oneBehindTheOther);
        doc.test(43, "WRONG (the pattern is as it was)", PatternsEdgesTest::asItWas);
        doc.test(43, "More than 60 characters are a 2 at place 60", PatternsEdgesTest::sixty);
        doc.test(43, "which is looked at before all else", PatternsEdgesTest::lengthFirst);
        doc.test(44, "How many arcs the walks from s to t that FIT have at least", PatternsEdgesTest::longWalks);
        doc.test(44, "NONE without one", PatternsEdgesTest::withoutOne);
        doc.test(44, "Illegal argument", PatternsEdgesTest::fitsOutside);
    }

    private static GraphHouse good(String text) {
        GraphHouse h = Support.withNodes(1);
        Support.retype(h, text);
        Support.due("pattern " + text, h.pattern(), 0);
        Support.due("its fault: " + text, h.fault(0) + " " + h.fault(1), "-1 -1");
        return h;
    }

    private static void bad(String text, int fault, int place) {
        GraphHouse h = new GraphHouse();
        Support.retype(h, text);
        Support.due("pattern " + text, h.pattern(), WRONG);
        Support.due("its fault: " + text, h.fault(0) + " at " + h.fault(1), fault + " at " + place);
    }

    /** Whether a word fits: it is laid as a row of arcs. */
    private static void fits(String pattern, String word, boolean due) {
        GraphHouse h = good(pattern);
        for (int i = 0; i < word.length(); i++) {
            h.node(0);
            h.arc(i, i + 1, 0, 0, word.charAt(i) - 'a');
        }
        Support.due(pattern + " for \"" + word + "\"", h.fits(0, word.length()), due ? word.length() : NONE);
    }

    // ---- the grammar

    private static void sixty() {
        good("a".repeat(60));
        bad("a".repeat(61), 2, 60);
        bad("a".repeat(400), 2, 60);
        GraphHouse h = good("(" + "a".repeat(57) + ")*");
        h.arc(0, 0, 0, 0, 0);
        Support.due("60 characters count", h.fits(0, 0), 0);
        good("a|".repeat(30));
        good("(a)".repeat(20));
    }

    private static void blanks() {
        bad(" ", 1, 0);
        bad("a b", 1, 1);
        bad("a ", 1, 1);
        bad("(a )", 1, 2);
    }

    private static void alternatives() {
        fits("a|b", "a", true);
        fits("a|b", "b", true);
        fits("a|b", "ab", false);
        fits("a|b", "", false);
        fits("ab|c", "ab", true);
        fits("ab|c", "ac", false);
        fits("ab|c", "c", true);
        fits("a|b|c", "c", true);
        fits("a|b*", "bb", true);
        fits("a|b*", "aa", false);
    }

    private static void emptySequences() {
        fits("", "", true);
        fits("", "a", false);
        fits("|", "", true);
        fits("|", "a", false);
        fits("a|", "", true);
        fits("|a", "a", true);
        fits("a||b", "", true);
        fits("()", "", true);
        fits("a()b", "ab", true);
        fits("(|)", "", true);
        fits("(a|)b", "b", true);
        fits("(|a)+b", "aab", true);
        fits("()*", "", true);
        fits("()+", "", true);
        fits("()+a", "a", true);
        fits("(a*)*", "aaa", true);
        fits("(a?)+", "", true);
    }

    private static void oneSign() {
        good("a*b+c?.*(a)+()?");
        bad("a**", 2, 2);
        bad("a*+", 2, 2);
        bad("a+?", 2, 2);
        bad("a??", 2, 2);
        bad("(a)*+", 2, 4);
        good("(a*)*");
    }

    private static void letters() {
        fits("a", "a", true);
        fits("z", "z", true);
        fits("a", "b", false);
        fits("y", "z", false);
        GraphHouse h = good("z");
        h.arc(0, 0, 0, 0, 25);
        Support.due("z is 25", h.fits(0, 0), 1);
    }

    private static void anyKind() {
        for (char c = 'a'; c <= 'z'; c++) {
            fits(".", "" + c, true);
        }
        fits(".", "", false);
        fits(".", "ab", false);
        fits(".*", "xyz", true);
        fits("..", "az", true);
    }

    private static void inParentheses() {
        fits("(a|b)c", "bc", true);
        fits("(a|b)c", "a", false);
        fits("((((((((((a))))))))))", "a", true);
        fits("(a(b|c)d)", "acd", true);
        fits("(a|b)(a|b)", "ba", true);
    }

    private static void sequences() {
        fits("abc", "abc", true);
        fits("abc", "acb", false);
        fits("abc", "ab", false);
        fits("abc", "abca", false);
        GraphHouse h = good("ab");
        h.node(0);
        h.arc(0, 1, 0, 0, 1);
        h.arc(1, 0, 0, 0, 0);
        Support.due("b, then a", h.fits(0, 0), NONE);
        Support.due("a, then b", h.fits(1, 1), 2);
    }

    private static void star() {
        fits("a*", "", true);
        fits("a*", "a", true);
        fits("a*", "a".repeat(31), true);
        fits("a*", "ab", false);
        fits("(ab)*", "abab", true);
        fits("(ab)*", "aba", false);
        fits("a*a", "aaa", true);
        fits("b*a", "a", true);
    }

    private static void plus() {
        fits("a+", "", false);
        fits("a+", "a", true);
        fits("a+", "a".repeat(31), true);
        fits("(a|b)+", "abba", true);
        fits("(ab)+", "", false);
        fits("a+a", "a", false);
    }

    private static void mark() {
        fits("a?", "", true);
        fits("a?", "a", true);
        fits("a?", "aa", false);
        fits("(ab)?c", "c", true);
        fits("(ab)?c", "abc", true);
        fits("(ab)?c", "bc", false);
        fits("a?a", "a", true);
    }

    // ---- faults

    private static void strayCharacters() {
        for (char c = 32; c <= 126; c++) {
            if ("abcdefghijklmnopqrstuvwxyz.()|*+?".indexOf(c) < 0) {
                bad("" + c, 1, 0);
                bad("a(" + c + ")", 1, 2);
                bad("a*" + c, 1, 2);
            }
        }
        bad("A)", 1, 0);
        bad(")A", 2, 0);
    }

    private static void cantBeThere() {
        bad("*", 2, 0);
        bad("+a", 2, 0);
        bad("?", 2, 0);
        bad(")", 2, 0);
        bad("a)", 2, 1);
        bad("(a))", 2, 3);
        bad("(*)", 2, 1);
        bad("|*", 2, 1);
        bad("a|?b", 2, 2);
        bad("a*)b", 2, 2);
        bad("()())", 2, 4);
    }

    private static void theEnd() {
        bad("(", 2, 1);
        bad("(a", 2, 2);
        bad("((a)", 2, 4);
        bad("(a|", 2, 3);
        bad("(".repeat(10), 2, 10);
        bad("(" + "a".repeat(59), 2, 60);
    }

    private static void tenOthers() {
        good("(".repeat(10) + ")".repeat(10));
        bad("(".repeat(11) + ")".repeat(11), 3, 10);
        bad("a(".repeat(11), 3, 21);
        good("(".repeat(10) + ")".repeat(10) + "()".repeat(20));
        good("((((((((((a)))))(((((b))))))))))");
        bad("((((((((((a)))))((((((b)))))))))))", 3, 21);
        bad("(".repeat(11) + "#", 3, 10);
        bad("(".repeat(10) + "#(", 1, 10);
    }

    // ---- calls

    private static void textStays() {
        GraphHouse h = good("ab");
        h.arc(0, 0, 0, 0, 0);
        Support.due("it is used", h.fits(0, 0), NONE);
        Support.due("it stays", h.type('*'), 3);
        Support.due("typing changes no pattern", h.fits(0, 0), NONE);
        Support.due("taken again", h.pattern(), 0);
        Support.due("wiping changes no pattern", h.wipe(), 3);
        Support.due("a, then any number of b", h.fits(0, 0), 1);
    }

    /** Nothing is left of the pattern before, nor of the text before. */
    private static void oneBehindTheOther() {
        GraphHouse h = Support.withNodes(4);
        for (int v = 0; v < 3; v++) {
            h.arc(v, v + 1, 0, 0, v);
        }
        String[] patterns = {"a|b|c", "abc", "(a|b)*c", "ab", "a", "a*", "a", "(abc)?", "(ab)", "....", "...", "a+b+c+", "a", "|", "a"};
        String[] dues = {"-1 1 -1 -1", "-1 -1 -1 3", "-1 -1 -1 3", "-1 -1 2 -1", "-1 1 -1 -1", "0 1 -1 -1", "-1 1 -1 -1", "0 -1 -1 3",
            "-1 -1 2 -1", "-1 -1 -1 -1", "-1 -1 -1 3", "-1 -1 -1 3", "-1 1 -1 -1", "0 -1 -1 -1", "-1 1 -1 -1"};
        for (int i = 0; i < patterns.length; i++) {
            Support.retype(h, patterns[i]);
            Support.due("pattern", h.pattern(), 0);
            String got = h.fits(0, 0) + " " + h.fits(0, 1) + " " + h.fits(0, 2) + " " + h.fits(0, 3);
            Support.due(patterns[i] + " as number " + i, got, dues[i]);
        }
    }

    private static void asItWas() {
        GraphHouse h = good("a");
        h.arc(0, 0, 0, 0, 0);
        String[] texts = {"b)", "b(", "*", "#", "(".repeat(11), "b".repeat(61), "()*b("};
        for (String text : texts) {
            Support.retype(h, text);
            Support.due("pattern", h.pattern(), WRONG);
            Support.due("still a", h.fits(0, 0), 1);
            Support.due("it stays", h.wipe(), text.length());
        }
        Support.due("the empty one", h.pattern(), 0);
        Support.due("now empty", h.fits(0, 0), 0);
    }

    private static void lengthFirst() {
        bad("#" + "a".repeat(60), 2, 60);
        bad("*" + "a".repeat(60), 2, 60);
        bad(" ".repeat(61), 2, 60);
        bad("(".repeat(61), 2, 60);
        bad("#" + "a".repeat(59), 1, 0);
    }

    private static void longWalks() {
        GraphHouse h = Support.withNodes(32);
        for (int v = 0; v < 32; v++) {
            h.arc(v, (v + 1) % 32, 0, 0, 0);
        }
        Support.retype(h, "(" + "a".repeat(57) + ")*");
        h.pattern();
        for (int times = 0; times < 32; times++) {
            Support.due(times + " times 57 arcs", h.fits(0, 57 * times % 32), 57 * times);
        }
        Support.retype(h, "(" + "a".repeat(57) + ")+");
        h.pattern();
        Support.due("32 times 57 arcs", h.fits(31, 31), 1824);
        Support.retype(h, ".".repeat(60));
        h.pattern();
        Support.due("60 arcs", h.fits(0, 28), 60);
        Support.due("not 61", h.fits(0, 29), NONE);
    }

    private static void withoutOne() {
        GraphHouse h = good(".*");
        h.node(0);
        Support.due("no arc", h.fits(0, 1), NONE);
        h.arc(1, 0, 0, 0, 0);
        Support.due("only back", h.fits(0, 1), NONE);
        Support.due("to itself", h.fits(0, 0), 0);
        Support.retype(h, "b");
        h.pattern();
        Support.due("another kind", h.fits(1, 0), NONE);
        h.view(2);
        Support.due("of THE GRAPH", h.fits(1, 0), NONE);
    }

    private static void fitsOutside() {
        GraphHouse h = Support.withNodes(2);
        for (int bad : Support.outside(0, 1)) {
            Support.illegal("from " + bad, () -> h.fits(bad, 0));
            Support.illegal("to " + bad, () -> h.fits(0, bad));
        }
        Support.illegal("no node at all", () -> new GraphHouse().fits(0, 0));
    }
}
