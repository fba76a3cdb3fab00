/** The sentences on the history, on errors and the constants, and promises 1 and 27. */
final class HistorySentences {
    static void all(Sentences s) {
        s.section("Description");
        s.plain("History, errors");
        fiveStates(s.test("A history of at most 5 states is kept."));
        recorded(s.test("The methods that are said to be recorded record the whole state (all but the"
            + " text) before each call that returns no error, even if it changes nothing; when one more"
            + " is recorded, the oldest one is dropped."));
        latest(s.test("undo() removes and restores the latest one."));
        none(s.test("NONE (-1) stands for \"there is none\"."));
        codes(s.test("The error codes are BAD_INDEX (-2): there is no such node, edge, or rank;"
            + " BAD_VALUE (-3): another argument is out of its range; BAD_STATE (-4): the call is not"
            + " possible, as told; FULL (-5): there is no room."));
        order(s.test("If several apply to a call, the first one in this order is returned; NONE is"
            + " returned only if no error applies."));
        nothingChanges(s.test("A call that returns an error changes nothing."));
        s.plain("The constants:");
        constants(s.test("`NONE = -1, BAD_INDEX = -2, BAD_VALUE = -3, BAD_STATE = -4, FULL = -5`: NONE:"
            + " there is none. The others are error codes."));
        s.plain("The constructor and the methods follow, a promise each: the signature, then what it"
            + " does.");
        s.section("Promise 1: A new object");
        newObject(s.test("Creates nodes without edges and observations, with the settings that are"
            + " described, and an empty text."));
        s.section("Promise 27: undo");
        restores(s.test("Removes and restores the latest state of the history."));
        left(s.test("Returns the number of states that are left in it;"));
        empty(s.test("BAD_STATE if it is empty."));
    }

    // ---- the history

    private static void fiveStates(Check check) {
        for (int calls = 0; calls <= 9; calls++) {
            RumourSource x = new RumourSource();
            for (int call = 0; call < calls; call++) {
                x.observe(call % 8, call);
            }
            int undone = 0;
            while (undone < 12 && x.undo() >= 0) {
                undone++;
            }
            check.due("the states after " + calls + " recorded calls", undone, Math.min(calls, 5));
        }
    }

    /** Makes one call of a kind that is recorded, and which here changes nothing. */
    private static void callThatChangesNothing(RumourSource x, int kind) {
        switch (kind) {
            case 0:
                x.setEdge(0, 5, 2);
                break;
            case 1:
                x.setHorizon(20);
                break;
            case 2:
                x.observe(0, -1);
                break;
            case 3:
                x.forget(7);
                break;
            case 4:
                x.setSensors(0);
                break;
            case 5:
                x.simulate(4, 4);
                break;
            default:
                x.load();
        }
    }

    private static void recorded(Check check) {
        // of these seven kinds of calls one can be made that changes nothing
        for (int kind = 0; kind < 7; kind++) {
            RumourSource x = Check.loaded("0>1*5+2");
            x.setSensors(0);
            if (kind == 2) {
                x.observe(0, -1);
            }
            Check.type(x, "0>1*5+2");
            long before = x.digest();
            int states = kind == 2 ? 3 : 2;
            callThatChangesNothing(x, kind);
            check.due("digest() after the kind " + kind, x.digest(), before);
            check.due("undo() after the kind " + kind, x.undo(), states);
            check.due("digest() after its undo()", x.digest(), before);
        }
        wholeState(check);
        theOldestGoes(check);
        neitherErrorsNorQuestions(check);
    }

    private static void wholeState(Check check) {
        RumourSource x = Check.loaded("0>1*5+2;1>2*10+1;3=7;4=-");
        x.setHorizon(11);
        x.setSensors(170);
        long before = x.digest();
        Check.type(x, "0>1*6+3;5>6*1+1;3=-;4=5;5=5");
        x.load();
        x.undo();
        check.due("digest() after undo() of load()", x.digest(), before);
        check.due("clearText(), which is not in the state", x.clearText(), 27);
        x.simulate(3, 3);
        x.undo();
        check.due("digest() after undo() of simulate()", x.digest(), before);
        x.removeEdge(0);
        x.undo();
        check.due("digest() after undo() of removeEdge()", x.digest(), before);
        x.addEdge(5, 6, 7, 3);
        x.undo();
        check.due("digest() after undo() of addEdge()", x.digest(), before);
        x.setHorizon(30);
        x.setSensors(255);
        x.undo();
        x.undo();
        check.due("digest() after two undo()", x.digest(), before);
        check.due("timeBy(1, 3, 2)", x.timeBy(1, 3, 2), 3);
    }

    private static void theOldestGoes(Check check) {
        RumourSource x = new RumourSource();
        for (int h = 1; h <= 6; h++) {
            x.setHorizon(h);
        }
        for (int left = 4; left >= 0; left--) {
            check.due("undo()", x.undo(), left);
        }
        check.due("undo(), the state with 20 was dropped", x.undo(), -4);
        check.due("setHorizon(9), 1 is the oldest", x.setHorizon(9), 1);
    }

    private static void neitherErrorsNorQuestions(Check check) {
        RumourSource x = Check.typed("0=");
        x.setHorizon(31);
        x.observe(8, 0);
        x.load();
        x.addEdge(1, 1, 1, 1);
        x.edgeBetween(0, 1);
        x.observed(0);
        x.likelihood(1);
        x.values(0);
        x.textFault();
        x.digest();
        x.clearText();
        check.due("undo(), none is recorded", x.undo(), -4);
        // observe() and forget() may answer NONE, which is no error
        x.observe(0, -1);
        check.due("forget(0)", x.forget(0), -1);
        check.due("undo()", x.undo(), 1);
        check.due("observed(0)", x.observed(0), -1);
        check.due("observe(0, 3)", x.observe(0, 3), -1);
        check.due("undo()", x.undo(), 1);
    }

    private static void latest(Check check) {
        RumourSource x = new RumourSource();
        x.observe(0, 1);
        x.observe(0, 2);
        x.observe(0, 3);
        check.due("undo()", x.undo(), 2);
        check.due("observed(0)", x.observed(0), 2);
        x.observe(0, 9);
        check.due("undo(), which has removed the state it restored", x.undo(), 2);
        check.due("observed(0)", x.observed(0), 2);
        check.due("undo()", x.undo(), 1);
        check.due("observed(0)", x.observed(0), 1);
        check.due("undo()", x.undo(), 0);
        check.due("observed(0)", x.observed(0), 100);
    }

    // ---- errors

    private static void none(Check check) {
        RumourSource x = Check.loaded("0>1*5+2;1=7");
        check.due("edgeBetween(1, 0)", x.edgeBetween(1, 0), RumourSource.NONE);
        check.due("timeBy(1, 0, 1)", x.timeBy(1, 0, 1), RumourSource.NONE);
        check.due("decoy(0)", x.decoy(0), RumourSource.NONE);
        check.due("explanation(1)", x.explanation(1), RumourSource.NONE);
        Check.type(x, "0=-");
        check.due("textFault()", x.textFault(), RumourSource.NONE);
        x.load();
        check.due("observed(0)", x.observed(0), RumourSource.NONE);
    }

    private static void codes(Check check) {
        RumourSource x = Check.withEdges(12);
        check.due("no such node", x.observed(8), RumourSource.BAD_INDEX);
        check.due("no such edge", x.edge(12, 0), RumourSource.BAD_INDEX);
        check.due("no such rank", x.candidate(8), RumourSource.BAD_INDEX);
        check.due("another argument", x.edge(0, 4), RumourSource.BAD_VALUE);
        check.due("a start is another argument", x.reach(256), RumourSource.BAD_VALUE);
        check.due("an outcome is another argument", x.weight(4096), RumourSource.BAD_VALUE);
        check.due("such an edge", x.addEdge(0, 1, 5, 1), RumourSource.BAD_STATE);
        check.due("a text with a fault", x.load(), RumourSource.BAD_STATE);
        check.due("no room for an edge", x.addEdge(5, 0, 5, 1), RumourSource.FULL);
        Check.type(x, " ".repeat(120));
        check.due("no room for a byte", x.type(32), RumourSource.FULL);
        check.due("an empty history", new RumourSource().undo(), RumourSource.BAD_STATE);
    }

    private static void order(Check check) {
        RumourSource x = Check.withEdges(12);
        check.due("index before value, state and room", x.addEdge(8, 8, 11, 0), -2);
        check.due("index before value", x.addEdge(0, -1, 11, 0), -2);
        check.due("value before state", x.addEdge(0, 1, 11, 1), -3);
        check.due("value before room", x.addEdge(6, 6, 1, 1), -3);
        check.due("value before room", x.addEdge(5, 0, 1, 6), -3);
        check.due("state before room", x.addEdge(0, 1, 1, 1), -4);
        check.due("index before value", x.setEdge(12, 11, 0), -2);
        check.due("index before value", x.edge(12, 4), -2);
        check.due("index before value", x.observe(8, 31), -2);
        check.due("index before value", x.timeBy(0, 4096, 8), -2);
        check.due("index before value", x.timeBy(256, -1, -1), -2);
        check.due("index before value", x.timeWeight(0, 8, 31), -2);
        check.due("index before value", x.timeWeight(1, -1, -2), -2);
        RumourSource y = Check.typed("0=-" + " ".repeat(117));
        check.due("value before room", y.type(256), -3);
        y.load();
        check.due("index before none", y.edgeBetween(0, 8), -2);
        check.due("index before none", y.edgeBetween(8, 0), -2);
        check.due("value before none", y.timeBy(1, 1, 7), -3);
        check.due("value before none", y.timeBy(0, 0, 7), -3);
        check.due("value before none", y.explanation(0), -3);
        check.due("value before none", y.explanation(256), -3);
        y.observe(1, 0);
        y.observe(2, 0);
        y.observe(3, 0);
        check.due("index before none", y.decoy(8), -2);
        check.due("none", y.decoy(7), -1);
    }

    private static void nothingChanges(Check check) {
        RumourSource x = Check.withEdges(12);
        x.observe(0, 9);
        x.observe(7, -1);
        Check.type(x, "0=31");
        long before = x.digest();
        for (int bad : new int[] {-9, 256, Integer.MIN_VALUE, Integer.MAX_VALUE}) {
            long[] answers = {
                x.addEdge(bad, 0, 5, 1), x.addEdge(5, bad, 5, 1), x.addEdge(5, 0, bad, 1),
                x.addEdge(5, 0, 5, bad), x.addEdge(0, 1, 3, 3), x.addEdge(5, 0, 5, 1),
                x.addEdge(5, 5, 5, 1), x.setEdge(bad, 5, 1), x.setEdge(0, bad, 1), x.setEdge(0, 1, bad),
                x.removeEdge(bad), x.removeEdge(12), x.setHorizon(bad), x.observe(bad, 1),
                x.observe(0, bad), x.forget(bad), x.setSensors(bad), x.simulate(bad, 1),
                x.simulate(0, 1), x.load(), x.type(bad), x.timeBy(bad, 0, 0), x.timeBy(1, 0, bad),
                x.fits(bad, 0), x.timeWeight(1, bad, 0), x.timeWeight(1, 0, bad), x.reach(bad),
                x.likelihood(bad), x.candidate(bad), x.belief(bad), x.decoy(bad), x.explanation(bad),
                x.values(bad)
            };
            for (int i = 0; i < answers.length; i++) {
                check.holds("the call " + i + " with " + bad + " is an error", answers[i] < -1);
            }
            check.due("digest()", x.digest(), before);
        }
        check.due("textFault(), the text is as it was", x.textFault(), 2);
        check.due("clearText()", x.clearText(), 4);
        check.due("undo(), the history is as it was", x.undo(), 4);
        check.due("observed(7)", x.observed(7), 100);
        check.due("undo()", x.undo(), 3);
        check.due("observed(0)", x.observed(0), 100);
        check.due("undo()", x.undo(), 2);
        check.due("edges()", x.edges(), 11);
        // and an undo() of an empty history changes nothing
        RumourSource y = new RumourSource();
        before = y.digest();
        check.due("undo()", y.undo(), -4);
        check.due("digest()", y.digest(), before);
        y.setHorizon(3);
        check.due("undo()", y.undo(), 0);
    }

    private static void constants(Check check) {
        check.due("NONE", RumourSource.NONE, -1);
        check.due("BAD_INDEX", RumourSource.BAD_INDEX, -2);
        check.due("BAD_VALUE", RumourSource.BAD_VALUE, -3);
        check.due("BAD_STATE", RumourSource.BAD_STATE, -4);
        check.due("FULL", RumourSource.FULL, -5);
    }

    // ---- promises 1 and 27

    private static void newObject(Check check) {
        RumourSource other = Check.loaded("0>1*5+2;3=4");
        other.setHorizon(3);
        other.setSensors(3);
        Check.type(other, "0=1");
        RumourSource x = new RumourSource();
        check.due("edges()", x.edges(), 0);
        check.due("edge(0, 0)", x.edge(0, 0), -2);
        for (int node = 0; node < 8; node++) {
            check.due("observed(" + node + ")", x.observed(node), 100);
        }
        check.due("textFault() of the empty text", x.textFault(), 0);
        check.due("clearText()", x.clearText(), 0);
        check.due("undo(), there is no history", x.undo(), -4);
        check.due("weight(0)", x.weight(0), 1);
        check.due("possible()", x.possible(), 36);
        long h = 31L * 17;
        h = 31 * h + 20;
        for (int node = 0; node < 8; node++) {
            h = 31 * h + 100;
        }
        check.due("digest()", x.digest(), 31 * h + 255);
        check.due("setHorizon(1)", x.setHorizon(1), 20);
        check.due("setSensors(1)", x.setSensors(1), 255);
        check.due("edges() of the other object", other.edges(), 1);
    }

    private static void restores(Check check) {
        RumourSource x = Check.loaded("0>1*5+2;1>2*6+3;4=4");
        long[] digests = new long[6];
        digests[0] = x.digest();
        x.removeEdge(0);
        digests[1] = x.digest();
        x.setEdge(0, 1, 1);
        digests[2] = x.digest();
        x.observe(4, -1);
        digests[3] = x.digest();
        x.setSensors(9);
        digests[4] = x.digest();
        x.simulate(9, 9);
        for (int left = 4; left >= 0; left--) {
            x.undo();
            check.due("digest() with " + left + " states left", x.digest(), digests[left]);
        }
        check.due("edge(0, 2)", x.edge(0, 2), 5);
        check.due("edge(1, 1)", x.edge(1, 1), 2);
    }

    private static void left(Check check) {
        RumourSource x = new RumourSource();
        for (int round = 0; round < 2; round++) {
            for (int calls = 1; calls <= 7; calls++) {
                x.setHorizon(calls);
                check.due("undo() after " + calls + " calls", x.undo(), Math.min(calls, 5) - 1);
                x.setHorizon(calls);
            }
            for (int left = 4; left >= 0; left--) {
                check.due("undo()", x.undo(), left);
            }
        }
    }

    private static void empty(Check check) {
        RumourSource x = new RumourSource();
        check.due("undo() of a new object", x.undo(), -4);
        check.due("undo() again", x.undo(), -4);
        x.forget(0);
        check.due("undo()", x.undo(), 0);
        check.due("undo() of an emptied history", x.undo(), -4);
        x.forget(0);
        check.due("undo() of a history that was empty", x.undo(), 0);
    }
}
