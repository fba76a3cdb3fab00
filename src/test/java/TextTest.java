/** Promises 28 to 31: the text, its faults, the loading of it. */
public final class TextTest {
    private static final String TWELVE =
        "0>1*1+1;1>2*1+1;2>3*1+1;3>4*1+1;4>5*1+1;5>6*1+1;6>7*1+1;7>0*1+1;0>2*1+1;1>3*1+1;2>4*1+1;3>5*1+1";

    public static void main(String[] args) {
        Check check = new Check("TextTest");
        type(check);
        clearText(check);
        grammar(check);
        blanks(check);
        numbers(check);
        edgesThatCannotBe(check);
        everyByte(check);
        load(check);
        check.end();
    }

    private static void type(Check check) {
        RumourSource x = new RumourSource();
        for (int bad : new int[] {-1, 256, Integer.MIN_VALUE, Integer.MAX_VALUE}) {
            check.due("type(" + bad + ")", x.type(bad), -3);
        }
        check.due("type(0)", x.type(0), 1);
        check.due("type(255)", x.type(255), 2);
        for (int length = 3; length <= 120; length++) {
            check.due("type(32)", x.type(32), length);
        }
        check.due("type(32) of 120", x.type(32), -5);
        check.due("type(256) of 120", x.type(256), -3);
        check.due("clearText()", x.clearText(), 120);
        check.due("type(32)", x.type(32), 1);
    }

    private static void clearText(Check check) {
        RumourSource x = new RumourSource();
        check.due("clearText()", x.clearText(), 0);
        Check.type(x, "0=1;9");
        check.due("clearText()", x.clearText(), 5);
        check.due("clearText()", x.clearText(), 0);
        Check.type(x, "0=1");
        check.due("textFault() of the new text", x.textFault(), -1);
    }

    /** Each text in an object of its own, so that none is used for too many calls. */
    private static void fault(Check check, String text, int want) {
        check.due("textFault() of '" + text + "'", Check.typed(text).textFault(), want);
    }

    private static void nextFault(Check check, RumourSource x, String text, int want) {
        x.clearText();
        Check.type(x, text);
        check.due("textFault() of '" + text + "'", x.textFault(), want);
    }

    private static void grammar(Check check) {
        String edge = "0>1*9+1";
        for (int length = 0; length < edge.length(); length++) {
            fault(check, edge.substring(0, length), length);
        }
        fault(check, edge, -1);
        fault(check, edge + ";", 8);
        fault(check, edge + ";7", 9);
        fault(check, edge + ";7=", 10);
        fault(check, edge + ";7=-", -1);
        fault(check, edge + ";7=-;6=3", -1);
        fault(check, ";", 0);
        fault(check, "0=1;;1=1", 4);
        fault(check, "8=1", 0);
        fault(check, "-=1", 0);
        fault(check, "0-1", 1);
        fault(check, "00=1", 1);
        fault(check, "0>8*1+1", 2);
        fault(check, "0>-*1+1", 2);
        fault(check, "0>1+1*1", 3);
        fault(check, "0>12*1+1", 3);
        fault(check, "0>1*-+1", 4);
        fault(check, "0>1*1*1", 5);
        fault(check, "0>1*1+-", 6);
        fault(check, "0>1*1+1=", 7);
        fault(check, "0=--", 3);
        fault(check, "0=-1", 3);
        fault(check, "0=1-", 3);
        fault(check, "0=+1", 2);
        fault(check, "0=1,1=1", 3);
    }

    private static void blanks(Check check) {
        fault(check, "  0  >  1  *  9  +  1  ;  7  =  -  ", -1);
        fault(check, " ", 1);
        fault(check, "   ", 3);
        fault(check, "0=1; ", 5);
        fault(check, "0=1 2", 4);
        fault(check, "0= 12 ", -1);
        fault(check, "0>1*1 0+1", 6);
        fault(check, "0>1* 11 +1", 5);
        fault(check, "0 > 0", 4);
        fault(check, "0\t=1", 1);
        fault(check, "0= ", 3);
    }

    private static void numbers(Check check) {
        fault(check, "0>1*0+1", -1);
        fault(check, "0>1*00+01", -1);
        fault(check, "0>1*10+05", -1);
        fault(check, "0>1*11+1", 4);
        fault(check, "0>1*11", 4);
        fault(check, "0>1*10", 6);
        fault(check, "0>1*99x", 4);
        fault(check, "0>1*010+1", 4);
        fault(check, "0>1*1+0", 6);
        fault(check, "0>1*1+00", 6);
        fault(check, "0>1*1+6", 6);
        fault(check, "0>1*1+10", 6);
        fault(check, "0>1*1+005", 6);
        fault(check, "0=30", -1);
        fault(check, "0=31", 2);
        fault(check, "0=00", -1);
        fault(check, "0=000", 2);
        fault(check, "0=030", 2);
        fault(check, "0=4294967297", 2);
        fault(check, "0=1;1=31;9", 6);
        StringBuilder zeros = new StringBuilder("0=");
        while (zeros.length() < 120) {
            zeros.append('0');
        }
        fault(check, zeros.toString(), 2);
    }

    private static void edgesThatCannotBe(Check check) {
        fault(check, "3>3*1+1", 2);
        fault(check, "3>3", 2);
        fault(check, TWELVE, -1);
        fault(check, TWELVE + ";5>7*1+1", 98);
        fault(check, TWELVE + ";5>5", 98);
        fault(check, TWELVE + ";5>6*2+2", -1);
        fault(check, TWELVE + ";5=5", -1);
        RumourSource x = Check.typed(TWELVE);
        check.due("load()", x.load(), 12);
        nextFault(check, x, "5>7*1+1", 2);
        nextFault(check, x, "5 > 7", 4);
        nextFault(check, x, "3>5*2+3", -1);
        x.removeEdge(11);
        nextFault(check, x, "5>7*1+1", -1);
        nextFault(check, x, "5>7*1+1;3>5*1+1", 10);
        nextFault(check, x, "5>7*1+1;5>7*2+1", -1);
        nextFault(check, x, "5=7;5>7*1+1;5>6*2+1;6>0*1+1", 22);
    }

    /** Behind each head every byte: it goes on, or it ends an item that is whole, or is the fault. */
    private static void everyByte(Check check) {
        String[][] heads = {
            {"", " 01234567", ""}, {"0", " >=", ""}, {"0>", " 1234567", ""}, {"0>1", " *", ""},
            {"0>1*", " 0123456789", ""}, {"0>1*1 ", " +", ""}, {"0>1*1+", " ", "12345"},
            {"0>1*1+1 ", ";", " "}, {"0=", " ", "-0123456789"}, {"0=1 ", ";", " "},
            {"0=-", ";", " "}, {"0=-;", " 01234567", ""}
        };
        for (String[] row : heads) {
            for (int code = 0; code < 256; code++) {
                RumourSource x = Check.typed(row[0]);
                x.type(code);
                int want = row[0].length();
                if (row[1].indexOf((char) code) >= 0) {
                    want++;
                } else if (row[2].indexOf((char) code) >= 0) {
                    want = -1;
                }
                check.due("textFault() of '" + row[0] + "' and " + code, x.textFault(), want);
            }
        }
    }

    private static void load(Check check) {
        RumourSource x = new RumourSource();
        check.due("load() of the empty text", x.load(), -4);
        Check.type(x, "0>1*9+1; 1=1; 0>1*8+2; 1=-; 2>3*10+5; 4=30");
        check.due("load()", x.load(), 2);
        int[] first = {0, 1, 8, 2};
        int[] second = {2, 3, 10, 5};
        for (int what = 0; what < 4; what++) {
            check.due("edge(0, " + what + ")", x.edge(0, what), first[what]);
            check.due("edge(1, " + what + ")", x.edge(1, what), second[what]);
        }
        check.due("observed(1), by the later item", x.observed(1), -1);
        check.due("observed(4)", x.observed(4), 30);
        check.due("observed(2)", x.observed(2), 100);
        check.due("load() again", x.load(), 2);
        x.type(';');
        long before = x.digest();
        check.due("load() with a fault", x.load(), -4);
        check.due("digest()", x.digest(), before);
        Check.type(x, "0=5;0=x");
        check.due("load() with a later fault", x.load(), -4);
        check.due("observed(0), nothing is done", x.observed(0), 100);
        check.due("textFault() changes nothing", x.textFault(), 49);
        check.due("digest()", x.digest(), before);
        check.due("undo(): a load is one call", x.undo(), 1);
        check.due("undo()", x.undo(), 0);
        check.due("edges()", x.edges(), 0);
        check.due("observed(4)", x.observed(4), 100);
    }
}
