/** Promise 27: the history, and which calls are recorded. */
public final class HistoryTest {
    public static void main(String[] args) {
        Check check = new Check("HistoryTest");
        depth(check);
        everyRecordedCall(check);
        wholeState(check);
        textStays(check);
        errorsAreNotRecorded(check);
        check.end();
    }

    private static void depth(Check check) {
        RumourSource x = new RumourSource();
        check.due("undo()", x.undo(), -4);
        for (int horizon = 1; horizon <= 8; horizon++) {
            x.setHorizon(horizon);
        }
        for (int left = 4; left >= 0; left--) {
            check.due("undo()", x.undo(), left);
        }
        check.due("undo() of none", x.undo(), -4);
        check.due("setHorizon(9), the oldest are dropped", x.setHorizon(9), 3);
        check.due("undo()", x.undo(), 0);
        check.due("setHorizon(3), with the same", x.setHorizon(3), 3);
        check.due("undo()", x.undo(), 0);
        x.setHorizon(10);
        x.setHorizon(11);
        x.undo();
        x.setHorizon(12);
        check.due("undo()", x.undo(), 1);
        check.due("undo()", x.undo(), 0);
        check.due("setHorizon(1)", x.setHorizon(1), 3);
    }

    private static void everyRecordedCall(Check check) {
        RumourSource x = new RumourSource();
        long before = x.digest();
        x.addEdge(0, 1, 5, 2);
        before = undone(check, x, "addEdge", before, -1);
        x.addEdge(0, 1, 5, 2);
        before = x.digest();
        x.setEdge(0, 6, 3);
        undone(check, x, "setEdge", before, 1);
        x.removeEdge(0);
        undone(check, x, "removeEdge", before, 1);
        x.setHorizon(3);
        undone(check, x, "setHorizon", before, 1);
        x.observe(2, 9);
        undone(check, x, "observe", before, 1);
        x.forget(2);
        undone(check, x, "forget", before, 1);
        x.setSensors(7);
        undone(check, x, "setSensors", before, 1);
        x.simulate(1, 4);
        undone(check, x, "simulate", before, 1);
        Check.type(x, "0>1*9+1;2=3;3>4*1+1");
        x.load();
        undone(check, x, "load", before, 1);
    }

    /** Undoes one call; before the call there were so many states, or none where it is -1. */
    private static long undone(Check check, RumourSource x, String call, long digest, int states) {
        check.due("undo() of " + call, x.undo(), Math.max(states, 0));
        check.due("digest() after undo() of " + call, x.digest(), digest);
        return digest;
    }

    private static void wholeState(Check check) {
        RumourSource x = Check.loaded("0>1*5+2;1>2*10+1;3=7;4=-");
        x.setHorizon(11);
        x.setSensors(170);
        long before = x.digest();
        Check.type(x, "0>1*6+3;5>6*1+1;3=-;4=5;5=5");
        x.load();
        check.due("edges()", x.edges(), 3);
        check.due("undo()", x.undo(), 3);
        check.due("digest()", x.digest(), before);
        check.due("edge(0, 2)", x.edge(0, 2), 5);
        check.due("edge(0, 3)", x.edge(0, 3), 2);
        check.due("edge(2, 0)", x.edge(2, 0), -2);
        check.due("observed(3)", x.observed(3), 7);
        check.due("observed(5)", x.observed(5), 100);
        x.simulate(3, 3);
        check.due("undo()", x.undo(), 3);
        check.due("digest()", x.digest(), before);
        x.removeEdge(0);
        check.due("undo()", x.undo(), 3);
        check.due("digest()", x.digest(), before);
    }

    private static void textStays(Check check) {
        RumourSource x = new RumourSource();
        x.setHorizon(1);
        Check.type(x, "0=");
        check.due("undo()", x.undo(), 0);
        check.due("type('5')", x.type('5'), 3);
        check.due("textFault()", x.textFault(), -1);
        check.due("undo(): type is not recorded", x.undo(), -4);
        check.due("load()", x.load(), 0);
        check.due("clearText()", x.clearText(), 3);
        check.due("undo()", x.undo(), 0);
        check.due("undo(): clearText is not recorded", x.undo(), -4);
        check.due("observed(0)", x.observed(0), 100);
        check.due("clearText(): not restored", x.clearText(), 0);
    }

    private static void errorsAreNotRecorded(Check check) {
        RumourSource x = Check.loaded("0>1*5+2");
        long before = x.digest();
        x.addEdge(0, 1, 1, 1);
        x.addEdge(0, 8, 1, 1);
        x.addEdge(0, 2, 1, 6);
        x.setEdge(1, 1, 1);
        x.setEdge(0, 11, 1);
        x.removeEdge(1);
        x.setHorizon(31);
        x.observe(8, 1);
        x.observe(1, 31);
        x.forget(8);
        x.setSensors(256);
        x.simulate(0, 1);
        x.load();
        check.due("digest()", x.digest(), before);
        check.due("undo()", x.undo(), 0);
    }
}
