/** The sentences on the text, and promises 28 to 31. */
final class TextSentences {
    private static final String TWELVE =
        "0>1*1+1;1>2*1+1;2>3*1+1;3>4*1+1;4>5*1+1;5>6*1+1;6>7*1+1;7>0*1+1;0>2*1+1;1>3*1+1;2>4*1+1;3>5*1+1";

    static void all(Sentences s) {
        s.section("Description");
        bytesAtMost(s.test("Edges and observations can be given by a text of at most 120 bytes with this"
            + " grammar:"));
        list(s.test("list = item { \";\" item }"));
        item(s.test("item = node \">\" node \"*\" number \"+\" number | node \"=\" ( number | \"-\" )"));
        node(s.test("A node is a digit, 0 to 7."));
        twoForms(s.test("The first form adds an edge with a trust and a delay, or, if there is such an"
            + " edge, sets its trust and delay; the second form observes a node with a time, or as"
            + " never hearing the rumour."));
        digits(s.test("Numbers have 1 or 2 digits."));
        blanks(s.test("Blanks (32) may stand anywhere except within numbers (a blank ends a number)."));
        place(s.test("The fault of the text is the position, from 0, of the first byte that is not"
            + " allowed at its place, or its length, if it ends too early (also if it is empty)."));
        secondNode(s.test("Not allowed are also: the second node of an edge, if it is the first one, or"
            + " if there is no such edge, and there are 12 edges (with those that items before it add,"
            + " for both);"));
        range(s.test("and the first digit of a number that is out of its range, or has more than two"
            + " digits (also if the text ends behind it; 05 is 5)."));
        type(s);
        clearText(s);
        textFault(s);
        load(s);
    }

    private static void type(Sentences s) {
        s.section("Promise 28: type");
        appends(s.test("Appends a byte to the text."));
        code(s.test("`code`: the byte, 0 to 255"));
        newLength(s.test("Returns the length of the text;"));
        badCode(s.test("BAD_VALUE if code is out of range;"));
        fullText(s.test("FULL if the text has 120 bytes."));
    }

    private static void clearText(Sentences s) {
        s.section("Promise 29: clearText");
        empties(s.test("Empties the text."));
        oldLength(s.test("Returns the length that it had."));
    }

    private static void textFault(Sentences s) {
        s.section("Promise 30: textFault");
        checksAlone(s.test("Checks the text."));
        faultOrNone(s.test("Returns its fault; NONE if it has none."));
    }

    private static void load(Sentences s) {
        s.section("Promise 31: load");
        inOrder(s.test("Does what the items of the text say, in their order."));
        asOneCall(s.test("Recorded, as one call."));
        edgesThen(s.test("Returns the number of edges then;"));
        faultyLoad(s.test("BAD_STATE if the text has a fault."));
    }

    /** Each text in an object of its own, so that none is used for too many calls. */
    private static void fault(Check check, String text, int want) {
        check.due("textFault() of '" + text + "'", Check.typed(text).textFault(), want);
    }

    // ---- the grammar

    private static void bytesAtMost(Check check) {
        // the last byte that there is place for is the last one of the last item
        String text = "0>1*9+2" + " ".repeat(109) + ";7=3";
        check.due("the length of the test's text", text.length(), 120);
        RumourSource x = Check.typed(text);
        check.due("type(';') as the byte 121", x.type(';'), -5);
        check.due("textFault()", x.textFault(), -1);
        check.due("load()", x.load(), 1);
        check.due("observed(7)", x.observed(7), 3);
        check.due("edge(0, 2)", x.edge(0, 2), 9);
    }

    private static void list(Check check) {
        fault(check, "", 0);
        fault(check, ";", 0);
        fault(check, "0=1", -1);
        fault(check, "0=1;", 4);
        fault(check, ";0=1", 0);
        fault(check, "0=1;1=1", -1);
        fault(check, "0=1;;1=1", 4);
        fault(check, "0=1 1=1", 4);
        fault(check, "0=1,1=1", 3);
        fault(check, "0=1:1=1", 3);
        fault(check, "0=-1=1", 3);
        String most = "0=1;".repeat(29) + "7=-";
        fault(check, most, -1);
        fault(check, most + ";", 120);
        RumourSource x = Check.typed(most);
        x.load();
        check.due("observed(0)", x.observed(0), 1);
        check.due("observed(7), by the item 30", x.observed(7), -1);
    }

    private static void item(Check check) {
        for (String item : new String[] {"0>1*9+1", "7=-", "7=3", "0>1*10+05", "7=30"}) {
            fault(check, item, -1);
        }
        String edge = "0>1*9+1";
        for (int at = 0; at < edge.length(); at++) {
            fault(check, edge.substring(0, at), at);
            for (char odd : "x-;=+*>".toCharArray()) {
                boolean own = edge.charAt(at) == odd;
                // behind the first node stands "=" in the other form, and then comes no "1*"
                int want = own ? -1 : at == 1 && odd == '=' ? 3 : at;
                fault(check, edge.substring(0, at) + odd + edge.substring(at + 1), want);
            }
        }
        for (int at = 0; at < 2; at++) {
            fault(check, "7=3".substring(0, at), at);
        }
        fault(check, "7=", 2);
        fault(check, "7=>", 2);
        fault(check, "7==3", 2);
        fault(check, "7=+3", 2);
        fault(check, "7=--", 3);
        fault(check, "7=-3", 3);
        fault(check, "7=3-", 3);
        fault(check, "7-", 1);
        fault(check, "-=3", 0);
        fault(check, "0>1+9*1", 3);
        fault(check, "0>1*-+1", 4);
        fault(check, "0>1*9+-", 6);
        fault(check, "0>1*9+1+1", 7);
        fault(check, "0>1>2*9+1", 3);
    }

    private static void node(Check check) {
        for (int node = 0; node <= 7; node++) {
            RumourSource x = Check.typed(node + "=4;" + node + ">" + (7 - node) + "*1+1");
            check.due("load() with the node " + node, x.load(), 1);
            check.due("observed(" + node + ")", x.observed(node), 4);
            check.due("edgeBetween(" + node + ", ..)", x.edgeBetween(node, 7 - node), 0);
        }
        for (int code = 0; code < 256; code++) {
            if ((code < '0' || code > '7') && code != ' ') {
                fault(check, (char) code + "=1", 0);
                fault(check, (char) code + ">1*1+1", 0);
                fault(check, "0>" + (char) code + "*1+1", 2);
            }
        }
        fault(check, "00=1", 1);
        fault(check, "0>01*1+1", 2);
        fault(check, "0>12*1+1", 3);
        fault(check, "01>2*1+1", 1);
    }

    private static void twoForms(Check check) {
        RumourSource x = Check.typed("0>1*0+1;1>0*10+5;2=0;3=30;4=-;0>1*7+2;2=-;4=9");
        check.due("load()", x.load(), 2);
        int[][] due = {{0, 1, 7, 2}, {1, 0, 10, 5}};
        for (int e = 0; e < 2; e++) {
            for (int what = 0; what < 4; what++) {
                check.due("edge(" + e + ", " + what + ")", x.edge(e, what), due[e][what]);
            }
        }
        int[] seen = {100, 100, -1, 30, 9, 100, 100, 100};
        for (int node = 0; node < 8; node++) {
            check.due("observed(" + node + ")", x.observed(node), seen[node]);
        }
        // an edge from before the load is set, too, and keeps its number
        x.clearText();
        Check.type(x, "5>6*1+1;0>1*8+3");
        check.due("load()", x.load(), 3);
        check.due("edge(0, 2)", x.edge(0, 2), 8);
        check.due("edge(0, 3)", x.edge(0, 3), 3);
        check.due("edge(2, 0)", x.edge(2, 0), 5);
    }

    private static void digits(Check check) {
        fault(check, "0=", 2);
        fault(check, "0=;1=1", 2);
        fault(check, "0=4", -1);
        fault(check, "0=14", -1);
        fault(check, "0=114", 2);
        fault(check, "0>1*+1", 4);
        fault(check, "0>1*1+", 6);
        fault(check, "0>1*1+;", 6);
        fault(check, "0>1*10+1", -1);
        fault(check, "0>1*010+1", 4);
        fault(check, "0>1*1+01", -1);
        fault(check, "0>1*1+001", 6);
        for (int code = 0; code < 256; code++) {
            boolean digit = code >= '0' && code <= '9';
            if (!digit && code != ' ' && code != '-') {
                fault(check, "0=" + (char) code, 2);
            }
            if (!digit && code != ' ' && code != ';') {
                fault(check, "0=1" + (char) code, 3);
            }
        }
    }

    private static void blanks(Check check) {
        String[] items = {"0>1*9+1", "7=-", "6=3", "0>1*9+1;7=-"};
        for (String item : items) {
            for (int at = 0; at <= item.length(); at++) {
                fault(check, item.substring(0, at) + " " + item.substring(at), -1);
                fault(check, item.substring(0, at) + "   " + item.substring(at), -1);
                for (char odd : new char[] {0, 9, 10, 31, 33, 160}) {
                    fault(check, item.substring(0, at) + odd + item.substring(at), at);
                }
            }
        }
        fault(check, "  0  >  1  *  9  +  1  ;  7  =  -  ", -1);
        fault(check, "0=1 2", 4);
        fault(check, "0=1  2", 5);
        fault(check, "0=1 02", 4);
        fault(check, "0>1*1 0+1", 6);
        fault(check, "0>1*10+0 5", 7);
        fault(check, "0>1*10+1 5", 9);
        fault(check, "0=99 9", 2);
        RumourSource x = Check.typed("0 = 1 ; 1 = 12 ");
        x.load();
        check.due("observed(0), a blank behind the number", x.observed(0), 1);
        check.due("observed(1), a blank behind the number", x.observed(1), 12);
    }

    private static void place(Check check) {
        fault(check, "", 0);
        fault(check, " ", 1);
        fault(check, " ".repeat(120), 120);
        fault(check, "x", 0);
        fault(check, " x", 1);
        fault(check, "0", 1);
        fault(check, "0 ", 2);
        fault(check, "0=", 2);
        fault(check, "0=  ", 4);
        fault(check, "0=1;  ", 6);
        fault(check, "0=x;1=x", 2);
        fault(check, "0=1;1=x;2=99", 6);
        fault(check, "x=99", 0);
        fault(check, "0=1;".repeat(30), 120);
        fault(check, "0=1" + " ".repeat(116) + "x", 119);
        fault(check, "0=1" + " ".repeat(116) + ";", 120);
        fault(check, "0=1" + " ".repeat(117), -1);
        fault(check, "0=1" + (char) 0, 3);
        fault(check, "0=1" + (char) 255, 3);
    }

    private static void secondNode(Check check) {
        for (int node = 0; node <= 7; node++) {
            fault(check, node + ">" + node + "*1+1", 2);
        }
        fault(check, "3>3", 2);
        fault(check, "3 > 3 x", 4);
        fault(check, TWELVE, -1);
        fault(check, TWELVE + ";5>7*1+1", 98);
        fault(check, TWELVE + ";5>7", 98);
        fault(check, TWELVE + ";5 > 7", 100);
        fault(check, TWELVE + ";5>x", 98);
        fault(check, TWELVE + ";5>6*2+2", -1);
        fault(check, TWELVE + ";5>5*2+2", 98);
        fault(check, TWELVE + ";5=6;3>5*1+2", -1);
        RumourSource x = Check.typed(TWELVE);
        check.due("load()", x.load(), 12);
        nextFault(check, x, "5>7*1+1", 2);
        nextFault(check, x, "3>5*2+3;5>7*1+1", 10);
        nextFault(check, x, "3>5*2+3", -1);
        nextFault(check, x, "5=7", -1);
        x.removeEdge(11);
        nextFault(check, x, "5>7*1+1", -1);
        nextFault(check, x, "5>7*1+1;5>7*2+2", -1);
        nextFault(check, x, "5>7*1+1;3>5*1+1", 10);
        nextFault(check, x, "5>6*1+1;5>7*1+1", -1);
        check.due("edges(), which a check leaves", x.edges(), 11);
    }

    /** The fault where there are edges already. */
    private static void nextFault(Check check, RumourSource x, String text, int want) {
        x.clearText();
        Check.type(x, text);
        check.due("textFault() of '" + text + "' with " + x.edges() + " edges", x.textFault(), want);
    }

    private static void range(Check check) {
        for (int number = 0; number <= 99; number++) {
            fault(check, "0>1*" + number + "+1", number <= 10 ? -1 : 4);
            fault(check, "0>1*1+" + number, number >= 1 && number <= 5 ? -1 : 6);
            fault(check, "0=" + number, number <= 30 ? -1 : 2);
            fault(check, "0>1*" + number, number > 10 ? 4 : number == 10 ? 6 : 5);
        }
        for (int number = 0; number <= 9; number++) {
            fault(check, "0=0" + number, -1);
            fault(check, "0>1*0" + number + "+1", -1);
            fault(check, "0>1*1+0" + number, number >= 1 && number <= 5 ? -1 : 6);
        }
        fault(check, "0=000", 2);
        fault(check, "0=005", 2);
        fault(check, "0=300", 2);
        fault(check, "0=4294967297", 2);
        fault(check, "0=" + "0".repeat(118), 2);
        fault(check, "0=" + "9".repeat(118), 2);
        fault(check, "0= 31", 3);
        fault(check, "0=31x", 2);
        fault(check, "0>1*11x", 4);
        fault(check, "0>1*1+6;x", 6);
        fault(check, "0=1;1=31;x", 6);
        RumourSource x = Check.loaded("0=05;1=00;2>3*09+05");
        check.due("observed(0), 05 is 5", x.observed(0), 5);
        check.due("observed(1), 00 is 0", x.observed(1), 0);
        check.due("edge(0, 2), 09 is 9", x.edge(0, 2), 9);
        check.due("edge(0, 3), 05 is 5", x.edge(0, 3), 5);
    }

    // ---- promises 28 to 31

    private static void appends(Check check) {
        RumourSource x = new RumourSource();
        String text = "3=12";
        int[] faults = {1, 2, -1, -1};
        for (int i = 0; i < text.length(); i++) {
            x.type(text.charAt(i));
            check.due("textFault() after " + (i + 1) + " bytes", x.textFault(), faults[i]);
        }
        x.load();
        check.due("observed(3)", x.observed(3), 12);
        x.type('3');
        check.due("textFault(), the load has left the text", x.textFault(), 2);
    }

    private static void code(Check check) {
        for (int first = 0; first < 256; first += 64) {
            RumourSource x = new RumourSource();
            for (int code = first; code < first + 64; code++) {
                check.due("type(" + code + ")", x.type(code), code - first + 1);
            }
        }
        for (int bad : Check.beyond(0, 255)) {
            check.due("type(" + bad + ")", new RumourSource().type(bad), -3);
        }
    }

    private static void newLength(Check check) {
        RumourSource x = new RumourSource();
        for (int length = 1; length <= 120; length++) {
            check.due("type(32)", x.type(32), length);
        }
        x.clearText();
        check.due("type(32), the text begins again", x.type(32), 1);
    }

    private static void badCode(Check check) {
        RumourSource x = Check.typed("0=");
        for (int bad : new int[] {-1, 256, 304, -208, Integer.MIN_VALUE, Integer.MAX_VALUE}) {
            check.due("type(" + bad + ")", x.type(bad), -3);
        }
        check.due("textFault(), nothing is appended", x.textFault(), 2);
        check.due("clearText()", x.clearText(), 2);
        RumourSource y = Check.typed(" ".repeat(120));
        check.due("type(256) of a full text", y.type(256), -3);
        check.due("type(-1) of a full text", y.type(-1), -3);
    }

    private static void fullText(Check check) {
        RumourSource x = Check.typed("0=1" + " ".repeat(116));
        check.due("type('x') as the byte 120", x.type('x'), 120);
        check.due("type('y') as the byte 121", x.type('y'), -5);
        check.due("type('y') again", x.type('y'), -5);
        check.due("textFault(), where 'x' stands", x.textFault(), 119);
        check.due("clearText()", x.clearText(), 120);
        check.due("type('0')", x.type('0'), 1);
        RumourSource y = Check.typed("0=1" + " ".repeat(117));
        check.due("type('x') as the byte 121", y.type('x'), -5);
        check.due("textFault(), no byte has changed", y.textFault(), -1);
    }

    private static void empties(Check check) {
        RumourSource x = Check.typed("0=1;x");
        x.clearText();
        check.due("textFault() of the empty text", x.textFault(), 0);
        check.due("load() of the empty text", x.load(), -4);
        Check.type(x, "2=3");
        check.due("textFault() of the new text", x.textFault(), -1);
        RumourSource y = Check.loaded("0=1");
        check.due("observed(0), the state is left", y.observed(0), 1);
        check.due("undo(), the history is left", y.undo(), 0);
    }

    private static void oldLength(Check check) {
        RumourSource x = new RumourSource();
        check.due("clearText() of the empty text", x.clearText(), 0);
        for (int length : new int[] {1, 2, 119, 120}) {
            Check.type(x, "x".repeat(length));
            check.due("clearText()", x.clearText(), length);
        }
        check.due("clearText() again", x.clearText(), 0);
        Check.type(x, "x".repeat(121));
        check.due("clearText(), the byte 121 was refused", x.clearText(), 120);
    }

    private static void checksAlone(Check check) {
        RumourSource x = Check.typed("0>1*1+1;2=3");
        long before = x.digest();
        x.textFault();
        check.due("digest()", x.digest(), before);
        check.due("edges()", x.edges(), 0);
        check.due("observed(2)", x.observed(2), 100);
        check.due("undo(), it is not recorded", x.undo(), -4);
        check.due("clearText(), the text is left", x.clearText(), 11);
        fault(check, "0>1*1+1;2=3", -1);
        fault(check, "0>1*1+1;2=x", 10);
    }

    private static void faultOrNone(Check check) {
        fault(check, "", 0);
        fault(check, "0=1", -1);
        fault(check, "0=1;", 4);
        fault(check, "0=" + " ".repeat(118), 120);
        fault(check, "y", 0);
        RumourSource x = Check.typed("0=1;2");
        check.due("textFault()", x.textFault(), 5);
        check.due("textFault() again", x.textFault(), 5);
        Check.type(x, "=3");
        check.due("textFault(), the fault is mended", x.textFault(), -1);
    }

    private static void inOrder(Check check) {
        RumourSource x = Check.typed("1=1;0>1*9+1;1=2;0>1*8+2;2>1*7+3;1=-;1=4;2=5");
        check.due("load()", x.load(), 2);
        check.due("observed(1), by the last of four", x.observed(1), 4);
        check.due("observed(2)", x.observed(2), 5);
        check.due("edge(0, 2), by the last of two", x.edge(0, 2), 8);
        check.due("edge(0, 3), by the last of two", x.edge(0, 3), 2);
        check.due("edge(1, 0), the second one", x.edge(1, 0), 2);
        check.due("load() again, with edges that are there", x.load(), 2);
        x.observe(7, 7);
        x.setHorizon(3);
        check.due("load()", x.load(), 2);
        check.due("observed(7), of which no item tells", x.observed(7), 7);
        check.due("setHorizon(20), of which no item tells", x.setHorizon(20), 3);
        RumourSource z = Check.typed("0>1*9+1");
        z.addEdge(5, 6, 7, 3);
        check.due("load(), to an edge of which no item tells", z.load(), 2);
        check.due("edge(0, 2), which is left", z.edge(0, 2), 7);
        check.due("edge(1, 2)", z.edge(1, 2), 9);
        RumourSource y = Check.typed(TWELVE);
        check.due("load() of twelve edges", y.load(), 12);
        check.due("edge(11, 0)", y.edge(11, 0), 3);
    }

    private static void asOneCall(Check check) {
        RumourSource x = new RumourSource();
        x.observe(5, 5);
        long before = x.digest();
        Check.type(x, "0>1*9+1;1>2*9+1;2>3*9+1;3>4*9+1;1=1;2=2;3=3;4=-");
        check.due("load()", x.load(), 4);
        check.due("undo()", x.undo(), 1);
        check.due("digest()", x.digest(), before);
        check.due("load()", x.load(), 4);
        check.due("load(), which changes nothing", x.load(), 4);
        check.due("undo()", x.undo(), 2);
        check.due("edges()", x.edges(), 4);
        check.due("undo()", x.undo(), 1);
        check.due("edges()", x.edges(), 0);
    }

    private static void edgesThen(Check check) {
        RumourSource x = Check.typed("7=7");
        check.due("load() without edges", x.load(), 0);
        x.addEdge(0, 1, 1, 1);
        check.due("load() with an edge from before", x.load(), 1);
        x.clearText();
        Check.type(x, "0>1*2+2;1>0*2+2");
        check.due("load() with one edge set and one added", x.load(), 2);
        check.due("edges()", x.edges(), 2);
    }

    private static void faultyLoad(Check check) {
        for (String text : new String[] {"", " ", "x", "0=1;", "0=31", "1>1*1+1", "0>1*5+2;1=x"}) {
            RumourSource x = Check.typed(text);
            long before = x.digest();
            check.due("load() of '" + text + "'", x.load(), -4);
            check.due("digest()", x.digest(), before);
            check.due("undo(), it is not recorded", x.undo(), -4);
            check.due("clearText(), the text is left", x.clearText(), text.length());
        }
        RumourSource full = Check.withEdges(12);
        Check.type(full, "5>7*1+1");
        check.due("load() of one more than twelve edges", full.load(), -4);
        check.due("edges()", full.edges(), 12);
    }
}
