/** The boundary cases of promises 13 to 18, and of what the terms say of texts and prints: sentence by sentence. */
public final class TextsEdgesTest {
    private static final int NONE = GraphHouse.NONE;
    private static final int WRONG = GraphHouse.WRONG;

    public static void main(String[] args) {
        Sentences doc = new Sentences(args);
        tokens(doc);
        faults(doc);
        calls(doc);
        doc.finish("TextsEdgesTest", 13, 18, "TEXTS", "THE PRINT");
    }

    private static void tokens(Sentences doc) {
        int terms = Sentences.TERMS;
        doc.test(terms, "at most 1000 characters", TextsEdgesTest::longestText);
        doc.test(terms, "codes 32 .. 126", TextsEdgesTest::codes);
        doc.test(terms, "small letters (one each)", TextsEdgesTest::letters);
        doc.test(terms, "numbers (perhaps a - before them, one to seven digits)", TextsEdgesTest::numbers);
        doc.test(terms, "blanks may stand between, before and behind them", TextsEdgesTest::blanks);
        doc.test(terms, "a - without a digit behind it is no token", TextsEdgesTest::minus);
        doc.test(terms, "A text is good if it is a row of COMMANDS (of none, too)", TextsEdgesTest::noCommands);
        doc.test(terms, "each ended by ;", TextsEdgesTest::ended);
        doc.test(terms, "n LETTER (a node with that label; a is 0)", TextsEdgesTest::nodeCommand);
        doc.test(terms, "a NUMBER NUMBER NUMBER NUMBER LETTER (an arc: from, to, weight, room, kind)", TextsEdgesTest::arcCommand);
        doc.test(terms, "t NUMBER (the arc of that place goes)", TextsEdgesTest::takeCommand);
        doc.test(terms, "w NUMBER NUMBER (the weight of an arc)", TextsEdgesTest::weightCommand);
        doc.test(terms, "can be done as node(), arc(), take(), set() would do it", TextsEdgesTest::bounds);
    }

    private static void faults(Sentences doc) {
        int terms = Sentences.TERMS;
        doc.test(terms, "FAULTS, the first that reading from the left meets", TextsEdgesTest::firstFault);
        doc.test(terms, "1 a character that begins no token", TextsEdgesTest::strayCharacters);
        doc.test(terms, "2 a token that can't be there", TextsEdgesTest::wrongTokens);
        doc.test(terms, "(or the end)", TextsEdgesTest::theEnd);
        doc.test(terms, "3 a number of more than seven digits", TextsEdgesTest::longNumbers);
        doc.test(terms, "4 a command that can't be done", TextsEdgesTest::bounds);
        doc.test(terms, "(an a when there is no place", TextsEdgesTest::noPlace);
        doc.test(terms, "any behind 4000 changes, too)", TextsEdgesTest::behindTheEnd);
        doc.test(terms, "looked at when its ; is come to", TextsEdgesTest::lookedAtLate);
        doc.test(terms, "(by what the commands before it make)", TextsEdgesTest::oneBehindTheOther);
        doc.test(terms, "Of one token 1 and 3 come first", TextsEdgesTest::ofOneToken);
        doc.test(terms, "a letter that begins no command is a 2", TextsEdgesTest::noCommandLetters);
        doc.test(terms, "PLACE: the first character of that token", TextsEdgesTest::placeOfTokens);
        doc.test(terms, "of 4 that of the command's letter", TextsEdgesTest::placeOfCommands);
        doc.test(terms, "the length at the end", TextsEdgesTest::placeOfTheEnd);
        doc.test(terms, "n with its label for each node; then for each arc, by places: a with its numbers and letter",
            TextsEdgesTest::printByPlaces);
        doc.test(terms, "each command written with single blanks between its tokens and none before ;", TextsEdgesTest::printBlanks);
    }

    private static void calls(Sentences doc) {
        doc.test(13, "A character behind THE TEXT: how many it has", TextsEdgesTest::typing);
        doc.test(13, "Illegal argument: its code is not 32 .. 126", TextsEdgesTest::codes);
        doc.test(13, "illegal state: it has 1000", TextsEdgesTest::longestText);
        doc.test(14, "THE TEXT is empty: how many characters it had", TextsEdgesTest::wiping);
        doc.test(15, "THE TEXT (it stays) is carried out", TextsEdgesTest::textStays);
        doc.test(15, "all of it or nothing", TextsEdgesTest::allOrNothing);
        doc.test(15, "how many commands it has (each is a change)", TextsEdgesTest::manyCommands);
        doc.test(15, "WRONG", TextsEdgesTest::wrongLoad);
        doc.test(16, "Of the latest load(), pattern() or program() what = 0 the FAULT, 1 its PLACE", TextsEdgesTest::latestFault);
        doc.test(16, "NONE for one that was not WRONG", TextsEdgesTest::noFault);
        doc.test(16, "and before any", TextsEdgesTest::noFaultBefore);
        doc.test(16, "Illegal argument", TextsEdgesTest::faultOutside);
        doc.test(17, "THE PRINT of THE GRAPH is made: how many characters it has", TextsEdgesTest::longestPrint);
        doc.test(18, "Character i of THE PRINT that was made last", TextsEdgesTest::lastPrint);
        doc.test(18, "(empty before any)", TextsEdgesTest::noPrint);
        doc.test(18, "Illegal argument: it has none", TextsEdgesTest::printedOutside);
    }

    /** Two nodes and an arc of place 0, weight 5, to which the text is brought. */
    private static GraphHouse loaded(String text) {
        GraphHouse h = Support.withNodes(2);
        h.arc(0, 1, 5, 6, 7);
        Support.retype(h, text);
        return h;
    }

    private static void good(String text, int commands) {
        GraphHouse h = loaded(text);
        Support.due("load of \"" + text + "\"", h.load(), commands);
        Support.due("its fault", h.fault(0) + " " + h.fault(1), "-1 -1");
        Support.due("its changes", h.version(), 3 + commands);
    }

    private static void bad(String text, int fault, int place) {
        GraphHouse h = loaded(text);
        Support.due("load of \"" + text + "\"", h.load(), WRONG);
        Support.due("its fault: \"" + text + "\"", h.fault(0) + " at " + h.fault(1), fault + " at " + place);
        Support.due("nothing was done", h.version() + " " + Support.printOf(h), "3 n a;n a;a 0 1 5 6 h;");
    }

    // ---- tokens

    private static void longestText() {
        GraphHouse h = Support.withNodes(1);
        for (int i = 1; i <= 1000; i++) {
            Support.due("type", h.type(i <= 997 ? ' ' : "na;".charAt(i - 998)), i);
        }
        Support.unready("the 1001st", () -> h.type(' '));
        Support.illegal("the argument comes first", () -> h.type(127));
        Support.due("the last characters count", h.load(), 1);
        Support.due("still 1000", h.wipe(), 1000);
        Support.due("room again", h.type('x'), 1);
    }

    private static void codes() {
        GraphHouse h = new GraphHouse();
        for (int bad : Support.outside(32, 126)) {
            Support.illegal("type " + bad, () -> h.type(bad));
        }
        Support.illegal("type 0", () -> h.type(0));
        Support.illegal("type 255", () -> h.type(255));
        Support.illegal("a 32 in 17 bits", () -> h.type(65536 + 32));
        Support.due("the least", h.type(32), 1);
        Support.due("the greatest", h.type(126), 2);
        Support.due("a ~ begins no token", h.load() + " " + h.fault(0) + " " + h.fault(1), "-4 1 1");
    }

    private static void letters() {
        good("na;", 1);
        good("nz;", 1);
        bad("nab;", 2, 2);
        bad("naa;", 2, 2);
        bad("nA;", 1, 1);
        bad("N a;", 1, 0);
        bad("n`;", 1, 1);
        bad("n{;", 1, 1);
    }

    private static void numbers() {
        good("w0 1;", 1);
        good("w0-1;", 1);
        good("w0 1000000;", 1);
        good("w0 -1000000;", 1);
        good("w0 0000001;", 1);
        good("w0 -0000001;", 1);
        good("w-0 -0;", 1);
        good("w0000000 5;", 1);
        bad("w0 00000001;", 3, 3);
        bad("w0 -00000001;", 3, 3);
        bad("w0 --1;", 1, 3);
        bad("w0 +1;", 1, 3);
        bad("w0 1.5;", 1, 4);
        bad("w01;", 2, 3);
        bad("1234567;", 2, 0);
        bad("-1234567;", 2, 0);
        bad("nb1234567;", 2, 2);
        bad("n1234567;", 2, 1);
    }

    private static void blanks() {
        good("   n   b   ;   ", 1);
        good("nb;nb;", 2);
        good("a0 1-2 3z;", 1);
        good("   ", 0);
        bad("w0 - 1;", 1, 3);
        bad("w 0 1 2;", 2, 6);
        bad("w 0 1 000 001;", 2, 6);
    }

    private static void minus() {
        bad("-", 1, 0);
        bad("w0 -;", 1, 3);
        bad("w0 -a;", 1, 3);
        bad("w0 - ", 1, 3);
        bad("w0 5-", 1, 4);
        bad("w0 5-1;", 2, 4);
        bad("t-1;", 4, 0);
    }

    private static void noCommands() {
        good("", 0);
        good(" ", 0);
        bad(";", 2, 0);
        bad("nb;;", 2, 3);
    }

    private static void ended() {
        good("nb ;", 1);
        bad("nb", 2, 2);
        bad("nb nb;", 2, 3);
        bad("nb;nb", 2, 5);
        bad("nb,", 1, 2);
        bad("nb:", 1, 2);
    }

    // ---- commands

    private static void nodeCommand() {
        GraphHouse h = new GraphHouse();
        Support.retype(h, "n a;n z;");
        Support.due("load", h.load(), 2);
        Support.due("labels", h.labelOf(0) + " " + h.labelOf(1), "0 25");
        bad("n;", 2, 1);
        bad("n 1;", 2, 2);
        bad("n -1;", 2, 2);
    }

    private static void arcCommand() {
        GraphHouse h = loaded("a1 0 -1000000 1000000 z;");
        Support.due("load", h.load(), 1);
        long[] want = {1, 0, -1000000, 1000000, 25};
        for (int what = 0; what < 5; what++) {
            Support.due("told " + what, h.told(1, what), want[what]);
        }
        bad("a;", 2, 1);
        bad("a0 1 2 3;", 2, 8);
        bad("a0 1 2 z;", 2, 7);
        bad("a0 1 2 3 4;", 2, 9);
        bad("a0 1 2 3 4 z;", 2, 9);
        bad("ab 1 2 3 z;", 2, 1);
    }

    private static void takeCommand() {
        GraphHouse h = loaded("t0;");
        Support.due("load", h.load(), 1);
        Support.due("arcs", h.size(1), 0);
        bad("t;", 2, 1);
        bad("ta;", 2, 1);
        bad("t0 0;", 2, 3);
    }

    private static void weightCommand() {
        GraphHouse h = loaded("w0 -9;");
        Support.due("load", h.load(), 1);
        Support.due("weight, room, kind", h.told(0, 2) + " " + h.told(0, 3) + " " + h.told(0, 4), "-9 6 7");
        bad("w;", 2, 1);
        bad("w0;", 2, 2);
        bad("w0 a;", 2, 3);
        bad("w0 1a;", 2, 4);
    }

    private static void bounds() {
        good("a0 0 0 0 a;", 1);
        good("a1 1 1000000 1000000 z;", 1);
        good("a1 0 -1000000 0 a;", 1);
        bad("a2 0 0 0 a;", 4, 0);
        bad("a0 2 0 0 a;", 4, 0);
        bad("a-1 0 0 0 a;", 4, 0);
        bad("a0 -1 0 0 a;", 4, 0);
        bad("a0 0 1000001 0 a;", 4, 0);
        bad("a0 0 -1000001 0 a;", 4, 0);
        bad("a0 0 9999999 0 a;", 4, 0);
        bad("a0 0 -9999999 0 a;", 4, 0);
        bad("a0 0 0 1000001 a;", 4, 0);
        bad("a0 0 0 -1 a;", 4, 0);
        bad("t1;", 4, 0);
        bad("t-1;", 4, 0);
        bad("t159;", 4, 0);
        bad("t160;", 4, 0);
        bad("t9999999;", 4, 0);
        bad("w1 0;", 4, 0);
        bad("w-1 0;", 4, 0);
        bad("w160 0;", 4, 0);
        bad("w0 1000001;", 4, 0);
        bad("w0 -1000001;", 4, 0);
        GraphHouse h = Support.withNodes(31);
        Support.retype(h, "na;na;");
        Support.due("a 33rd node", h.load() + " " + h.fault(0) + " " + h.fault(1), "-4 4 3");
        Support.retype(h, "na;");
        Support.due("the 32nd", h.load(), 1);
        Support.due("the 33rd", h.load() + " " + h.fault(0) + " " + h.fault(1), "-4 4 0");
        Support.due("nodes", h.size(0), 32);
    }

    // ---- faults

    private static void firstFault() {
        bad("t7;#", 4, 0);
        bad("t7#;", 1, 2);
        bad("t7 7#", 2, 3);
        bad("t#7;", 1, 1);
        bad("t12345678#", 3, 1);
        bad("nb;x;#", 2, 3);
        bad("nb;t9;x", 4, 3);
        bad("t9", 2, 2);
    }

    private static void strayCharacters() {
        String letters = "abcdefghijklmnopqrstuvwxyz0123456789; ";
        for (char c = 32; c <= 126; c++) {
            if (letters.indexOf(c) < 0) {
                bad("nb; " + c, 1, 4);
                bad("nb; n" + c + ";", 1, 5);
            }
        }
    }

    private static void wrongTokens() {
        bad("1;", 2, 0);
        bad("-1;", 2, 0);
        bad(";", 2, 0);
        bad("n n n;", 2, 4);
        bad("tt;", 2, 1);
        bad("t;0", 2, 1);
        bad("nb;1", 2, 3);
    }

    private static void theEnd() {
        bad("n", 2, 1);
        bad("nb", 2, 2);
        bad("a", 2, 1);
        bad("a0", 2, 2);
        bad("a0 0 0 0", 2, 8);
        bad("a0 0 0 0 a", 2, 10);
        bad("t", 2, 1);
        bad("w0", 2, 2);
        bad("w0 9999999", 2, 10);
    }

    private static void longNumbers() {
        bad("w0 12345678;", 3, 3);
        bad("w0 -12345678;", 3, 3);
        bad("w0 99999999999999999999;", 3, 3);
        bad("w0 00000000000000000005;", 3, 3);
        bad("t4294967296;", 3, 1);
        good("w0 0999999;", 1);
    }

    private static void noPlace() {
        GraphHouse h = Support.withNodes(1);
        for (int i = 0; i < 159; i++) {
            h.arc(0, 0, 0, 0, 0);
        }
        Support.retype(h, "a0 0 1 1 b;");
        Support.due("the last place", h.load() + " " + h.told(159, 2), "1 1");
        Support.due("no place", h.load() + " " + h.fault(0) + " " + h.fault(1), "-4 4 0");
        Support.due("no change", h.version() + " " + h.size(1), "161 160");
        Support.retype(h, "t80; a0 0 1 1 b;");
        Support.due("a place that the text makes", h.load() + " " + h.told(80, 2), "2 1");
    }

    private static void behindTheEnd() {
        String[] commands = {"nb;", "a0 1 0 0 b;", "t0;", "w0 5;"};
        for (String command : commands) {
            GraphHouse h = Support.withChanges(3999);
            Support.retype(h, command + "w0 5;");
            Support.due("the second", h.load() + " " + h.fault(0) + " " + h.fault(1), "-4 4 " + command.length());
            Support.due("nothing was done", h.version() + " " + h.size(0) + " " + h.size(1), "3999 2 1");
            Support.retype(h, command);
            Support.due("the last", h.load(), 1);
            Support.due("version", h.version(), 4000);
            Support.due("behind it", h.load() + " " + h.fault(0) + " " + h.fault(1), "-4 4 0");
            Support.retype(h, command.substring(0, command.length() - 1));
            Support.due("not looked at before ;", h.load() + " " + h.fault(0), "-4 2");
            h.wipe();
            Support.due("of no commands", h.load(), 0);
        }
    }

    private static void lookedAtLate() {
        bad("t9 9;", 2, 3);
        bad("a9 9 9 9;", 2, 8);
        bad("a9 9 9 9 a#", 1, 10);
        bad("w9 12345678", 3, 3);
        bad("w9 9", 2, 4);
        bad("w9 9 ;", 4, 0);
    }

    private static void oneBehindTheOther() {
        good("nb;a2 2 0 0 a;", 2);
        bad("a2 2 0 0 a;nb;", 4, 0);
        good("a0 1 0 0 a;t1;", 2);
        bad("t0;t0;", 4, 3);
        bad("t0;w0 1;", 4, 3);
        good("t0;a0 0 1 1 b;w0 1;", 3);
        bad("a0 1 0 0 a;t1;t1;", 4, 14);
    }

    private static void ofOneToken() {
        bad("12345678;", 3, 0);
        bad("n12345678;", 3, 1);
        bad("nb12345678;", 3, 2);
        bad("nb-12345678;", 3, 2);
        bad("nb-;", 1, 2);
        bad("n#", 1, 1);
        bad("#", 1, 0);
        bad("t0 12345678;", 3, 3);
    }

    private static void noCommandLetters() {
        for (char c = 'a'; c <= 'z'; c++) {
            if ("natw".indexOf(c) < 0) {
                bad(c + ";", 2, 0);
                bad("nb;  " + c + " 1;", 2, 5);
            }
        }
    }

    private static void placeOfTokens() {
        bad("   x", 2, 3);
        bad("w0   #", 1, 5);
        bad("w0   -12345678;", 3, 5);
        bad("w0  1  -2;", 2, 7);
        bad("w0  1  22;", 2, 7);
    }

    private static void placeOfCommands() {
        bad("  t 9 ;", 4, 2);
        bad("nb;  w  9  9  ;", 4, 5);
        bad("nb ; nb ; a 9 9 9 9 z ;", 4, 10);
    }

    private static void placeOfTheEnd() {
        bad("n   ", 2, 4);
        bad("nb; t0   ", 2, 9);
        GraphHouse h = new GraphHouse();
        Support.retype(h, "n" + " ".repeat(999));
        Support.due("at 1000", h.load() + " " + h.fault(0) + " " + h.fault(1), "-4 2 1000");
    }

    // ---- prints

    private static void printByPlaces() {
        GraphHouse h = new GraphHouse();
        h.node(25);
        h.node(0);
        h.arc(1, 0, 1, 2, 3);
        h.arc(0, 1, 4, 5, 6);
        h.arc(1, 1, -1, 0, 25);
        h.take(0);
        Support.due("a gap", Support.printOf(h), "n z;n a;a 0 1 4 5 g;a 1 1 -1 0 z;");
        h.arc(0, 0, 0, 0, 0);
        Support.due("the gap filled", Support.printOf(h), "n z;n a;a 0 0 0 0 a;a 0 1 4 5 g;a 1 1 -1 0 z;");
        h.view(1);
        Support.due("of THE GRAPH", Support.printOf(h), "n z;");
    }

    private static void printBlanks() {
        GraphHouse h = Support.withNodes(11);
        h.arc(10, 9, -1000000, 1000000, 25);
        h.arc(9, 10, 100, 10, 0);
        h.arc(0, 0, -10, 999999, 1);
        Support.due("all digits", Support.printOf(h).substring(44), "a 10 9 -1000000 1000000 z;a 9 10 100 10 a;a 0 0 -10 999999 b;");
    }

    private static void longestPrint() {
        Support.due("of no nodes", new GraphHouse().print(), 0);
        GraphHouse h = Support.withNodes(32);
        Support.due("of nodes", h.print(), 128);
        for (int i = 0; i < 160; i++) {
            h.arc(31, 30, -1000000, 1000000, 25);
        }
        Support.due("of all", h.print(), 128 + 160 * 27);
        Support.due("its last character", (char) h.printed(128 + 160 * 27 - 1), ";");
        Support.illegal("behind it", () -> h.printed(128 + 160 * 27));
    }

    private static void lastPrint() {
        GraphHouse h = new GraphHouse();
        h.node(2);
        h.print();
        h.label(0, 3);
        h.node(4);
        Support.due("as it was made", (char) h.printed(2), 'c');
        Support.illegal("nothing more", () -> h.printed(4));
        h.print();
        Support.due("made again", (char) h.printed(2), 'd');
        Support.due("made again", (char) h.printed(6), 'e');
        h.view(0);
        Support.due("still that", (char) h.printed(6), 'e');
        Support.due("of version 0", h.print(), 0);
        Support.illegal("empty", () -> h.printed(0));
    }

    private static void noPrint() {
        Support.illegal("of no nodes", () -> new GraphHouse().printed(0));
        Support.illegal("before any", () -> Support.withNodes(3).printed(0));
    }

    private static void printedOutside() {
        GraphHouse h = Support.withNodes(2);
        h.print();
        for (int bad : Support.outside(0, 7)) {
            Support.illegal("printed " + bad, () -> h.printed(bad));
        }
        Support.due("the first and the last", (char) h.printed(0) + "" + (char) h.printed(7), "n;");
    }

    // ---- calls

    private static void typing() {
        GraphHouse h = new GraphHouse();
        Support.due("the first", h.type('n'), 1);
        Support.illegal("none by a refused call", () -> h.type(31));
        Support.due("the second", h.type('a'), 2);
        Support.due("the third", h.type(';'), 3);
        Support.due("in their order", h.load(), 1);
    }

    private static void wiping() {
        GraphHouse h = new GraphHouse();
        Support.due("empty", h.wipe(), 0);
        h.type('x');
        Support.due("one", h.wipe(), 1);
        Support.due("empty again", h.wipe(), 0);
        Support.due("nothing is left of it", h.load(), 0);
        Support.due("the first again", h.type('y'), 1);
    }

    private static void textStays() {
        GraphHouse h = new GraphHouse();
        Support.retype(h, "nb;");
        Support.due("once", h.load(), 1);
        Support.due("twice", h.load(), 1);
        Support.due("nodes", h.size(0), 2);
        Support.due("one more character", h.type('x'), 4);
        Support.due("wrong", h.load(), WRONG);
        Support.due("it stays then, too", h.wipe(), 4);
    }

    private static void allOrNothing() {
        GraphHouse h = Support.withNodes(2);
        h.arc(0, 1, 5, 6, 7);
        h.arc(1, 0, 8, 9, 10);
        h.print();
        Support.retype(h, "nz;t0;w1 3;a2 2 1 1 b;a0 1 4 4 e;t9;");
        Support.due("load", h.load(), WRONG);
        Support.due("fault", h.fault(0) + " " + h.fault(1), "4 " + "nz;t0;w1 3;a2 2 1 1 b;a0 1 4 4 e;".length());
        Support.due("version", h.version(), 4);
        Support.illegal("no version of it", () -> h.view(5));
        Support.due("the graph", Support.printOf(h), "n a;n a;a 0 1 5 6 h;a 1 0 8 9 k;");
        Support.due("its sizes", h.size(0) + " " + h.size(1) + " " + h.size(3), "2 2 1");
        Support.due("its arcs", h.arcAt(0, 0, 0) + " " + h.arcAt(1, 0, 0), "0 1");
        Support.due("the next change", h.set(1, 0, 2), 8);
        Support.due("view of it", h.view(5), 5);
        Support.due("the graph", Support.printOf(h), "n a;n a;a 0 1 5 6 h;a 1 0 2 9 k;");
    }

    private static void manyCommands() {
        GraphHouse h = Support.withNodes(2);
        h.arc(0, 1, 0, 0, 0);
        Support.retype(h, "w0-1;".repeat(200));
        Support.due("200 commands", h.load(), 200);
        Support.due("200 changes", h.version(), 203);
        Support.due("view of the first", h.view(4), 4);
        Support.due("its weight", h.told(0, 2), -1);
        h.wipe();
        Support.due("none", h.load(), 0);
        Support.due("no change", h.version(), 203);
    }

    private static void wrongLoad() {
        bad("q", 2, 0);
        bad("t1;", 4, 0);
    }

    private static void latestFault() {
        GraphHouse h = new GraphHouse();
        Support.retype(h, " q");
        h.load();
        Support.due("of load()", h.fault(0) + " " + h.fault(1), "2 1");
        h.pattern();
        Support.due("of pattern()", h.fault(0) + " " + h.fault(1), "1 0");
        h.program();
        Support.due("of program()", h.fault(0) + " " + h.fault(1), "5 1");
        h.load();
        Support.due("of load() again", h.fault(0) + " " + h.fault(1), "2 1");
    }

    private static void noFault() {
        GraphHouse h = new GraphHouse();
        Support.retype(h, "#");
        h.load();
        h.wipe();
        Support.due("still told", h.fault(0) + " " + h.fault(1), "1 0");
        h.load();
        Support.due("a good load()", h.fault(0) + " " + h.fault(1), "-1 -1");
        h.program();
        Support.due("told again", h.fault(0) + " " + h.fault(1), "2 0");
        h.pattern();
        Support.due("a good pattern()", h.fault(0) + " " + h.fault(1), "-1 -1");
        Support.retype(h, "1;1");
        h.load();
        Support.due("told again", h.fault(0) + " " + h.fault(1), "2 0");
        h.program();
        Support.due("a good program()", h.fault(0) + " " + h.fault(1), "-1 -1");
    }

    private static void noFaultBefore() {
        GraphHouse h = new GraphHouse();
        Support.due("before any", h.fault(0) + " " + h.fault(1), NONE + " " + NONE);
        Support.illegal("a refused call is none", () -> h.node(26));
        Support.due("before any", h.fault(0) + " " + h.fault(1), NONE + " " + NONE);
    }

    private static void faultOutside() {
        GraphHouse h = new GraphHouse();
        for (int bad : Support.outside(0, 1)) {
            Support.illegal("fault " + bad, () -> h.fault(bad));
        }
    }
}
