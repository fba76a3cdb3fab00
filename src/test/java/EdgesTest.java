/** Promises 2 to 8: edges and the horizon. */
public final class EdgesTest {
    private static final int LOW = Integer.MIN_VALUE;
    private static final int HIGH = Integer.MAX_VALUE;

    public static void main(String[] args) {
        Check check = new Check("EdgesTest");
        addEdge(check);
        fullOfEdges(check);
        setEdge(check);
        removeEdge(check);
        edge(check);
        edgeBetween(check);
        setHorizon(check);
        check.end();
    }

    private static void addEdge(Check check) {
        RumourSource x = new RumourSource();
        for (int bad : new int[] {-1, 8, LOW, HIGH}) {
            check.due("addEdge(" + bad + ", 1, 1, 1)", x.addEdge(bad, 1, 1, 1), -2);
            check.due("addEdge(1, " + bad + ", 1, 1)", x.addEdge(1, bad, 1, 1), -2);
            check.due("addEdge(" + bad + ", " + bad + ", 11, 6)", x.addEdge(bad, bad, 11, 6), -2);
        }
        for (int bad : new int[] {-1, 11, LOW, HIGH}) {
            check.due("addEdge(0, 1, " + bad + ", 1)", x.addEdge(0, 1, bad, 1), -3);
        }
        for (int bad : new int[] {0, 6, -1, LOW, HIGH}) {
            check.due("addEdge(0, 1, 1, " + bad + ")", x.addEdge(0, 1, 1, bad), -3);
        }
        check.due("addEdge(5, 5, 1, 1)", x.addEdge(5, 5, 1, 1), -3);
        check.due("edges() after errors", x.edges(), 0);
        check.due("undo() after errors", x.undo(), -4);
        check.due("addEdge(0, 7, 0, 1)", x.addEdge(0, 7, 0, 1), 0);
        check.due("addEdge(7, 0, 10, 5)", x.addEdge(7, 0, 10, 5), 1);
        check.due("addEdge(0, 7, 1, 1) again", x.addEdge(0, 7, 1, 1), -4);
        check.due("addEdge(0, 7, 11, 1) again", x.addEdge(0, 7, 11, 1), -3);
        check.due("addEdge(7, 6, 3, 3)", x.addEdge(7, 6, 3, 3), 2);
        check.due("edges()", x.edges(), 3);
        check.due("edge(0, 2)", x.edge(0, 2), 0);
    }

    private static RumourSource full() {
        RumourSource x = new RumourSource();
        for (int e = 0; e < 12; e++) {
            x.addEdge(e % 8, (e + 1 + e / 8) % 8, e % 11, e % 5 + 1);
        }
        return x;
    }

    private static void fullOfEdges(Check check) {
        RumourSource x = full();
        check.due("edges()", x.edges(), 12);
        check.due("addEdge(6, 0, 1, 1)", x.addEdge(6, 0, 1, 1), -5);
        check.due("addEdge(0, 1, 1, 1)", x.addEdge(0, 1, 1, 1), -4);
        check.due("addEdge(6, 6, 1, 1)", x.addEdge(6, 6, 1, 1), -3);
        check.due("addEdge(6, 8, 1, 1)", x.addEdge(6, 8, 1, 1), -2);
        check.due("removeEdge(11)", x.removeEdge(11), 11);
        check.due("addEdge(6, 0, 1, 1)", x.addEdge(6, 0, 1, 1), 11);
        check.due("addEdge(5, 0, 1, 1)", x.addEdge(5, 0, 1, 1), -5);
    }

    private static void setEdge(Check check) {
        RumourSource x = Check.loaded("0>1*4+2;1>2*5+3");
        check.due("setEdge(1, 10, 5)", x.setEdge(1, 10, 5), 5);
        check.due("setEdge(1, 0, 1)", x.setEdge(1, 0, 1), 10);
        check.due("edge(1, 2)", x.edge(1, 2), 0);
        check.due("edge(1, 3)", x.edge(1, 3), 1);
        check.due("edge(0, 2)", x.edge(0, 2), 4);
        check.due("edge(0, 3)", x.edge(0, 3), 2);
        for (int bad : new int[] {-1, 2, 12, LOW, HIGH}) {
            check.due("setEdge(" + bad + ", 1, 1)", x.setEdge(bad, 1, 1), -2);
            check.due("setEdge(" + bad + ", 11, 0)", x.setEdge(bad, 11, 0), -2);
        }
        check.due("setEdge(0, 11, 1)", x.setEdge(0, 11, 1), -3);
        check.due("setEdge(0, -1, 1)", x.setEdge(0, -1, 1), -3);
        check.due("setEdge(0, 1, 0)", x.setEdge(0, 1, 0), -3);
        check.due("setEdge(0, 1, 6)", x.setEdge(0, 1, 6), -3);
        check.due("edge(0, 2) after errors", x.edge(0, 2), 4);
        check.due("setEdge(0, 4, 2), the same", x.setEdge(0, 4, 2), 4);
        check.due("undo()", x.undo(), 3);
    }

    private static void removeEdge(Check check) {
        RumourSource x = Check.loaded("0>1*1+1;1>2*2+2;2>3*3+3;3>4*4+4");
        for (int bad : new int[] {-1, 4, 12, LOW, HIGH}) {
            check.due("removeEdge(" + bad + ")", x.removeEdge(bad), -2);
        }
        check.due("removeEdge(1)", x.removeEdge(1), 3);
        check.due("edgeBetween(1, 2)", x.edgeBetween(1, 2), -1);
        int[][] left = {{0, 1, 1, 1}, {2, 3, 3, 3}, {3, 4, 4, 4}};
        for (int e = 0; e < 3; e++) {
            for (int what = 0; what < 4; what++) {
                check.due("edge(" + e + ", " + what + ")", x.edge(e, what), left[e][what]);
            }
        }
        check.due("edge(3, 0)", x.edge(3, 0), -2);
        check.due("weight(8)", x.weight(8), -3);
        check.due("removeEdge(2)", x.removeEdge(2), 2);
        check.due("removeEdge(0)", x.removeEdge(0), 1);
        check.due("removeEdge(0)", x.removeEdge(0), 0);
        check.due("removeEdge(0)", x.removeEdge(0), -2);
        check.due("edges()", x.edges(), 0);
        RumourSource y = full();
        check.due("removeEdge(0) of 12", y.removeEdge(0), 11);
        check.due("edge(10, 0)", y.edge(10, 0), 3);
        check.due("edge(11, 0)", y.edge(11, 0), -2);
    }

    private static void edge(Check check) {
        RumourSource x = Check.loaded("6>3*9+4");
        int[] properties = {6, 3, 9, 4};
        for (int what = 0; what < 4; what++) {
            check.due("edge(0, " + what + ")", x.edge(0, what), properties[what]);
        }
        for (int bad : new int[] {-1, 4, LOW, HIGH}) {
            check.due("edge(0, " + bad + ")", x.edge(0, bad), -3);
            check.due("edge(1, " + bad + ")", x.edge(1, bad), -2);
        }
        check.due("edge(-1, 0)", x.edge(-1, 0), -2);
        check.due("edge(12, 0)", x.edge(12, 0), -2);
    }

    private static void edgeBetween(Check check) {
        RumourSource x = Check.loaded("0>1*4+2;1>0*5+3;7>6*1+1");
        check.due("edgeBetween(0, 1)", x.edgeBetween(0, 1), 0);
        check.due("edgeBetween(1, 0)", x.edgeBetween(1, 0), 1);
        check.due("edgeBetween(7, 6)", x.edgeBetween(7, 6), 2);
        check.due("edgeBetween(6, 7)", x.edgeBetween(6, 7), -1);
        check.due("edgeBetween(0, 0)", x.edgeBetween(0, 0), -1);
        for (int bad : new int[] {-1, 8, LOW, HIGH}) {
            check.due("edgeBetween(" + bad + ", 0)", x.edgeBetween(bad, 0), -2);
            check.due("edgeBetween(0, " + bad + ")", x.edgeBetween(0, bad), -2);
        }
    }

    private static void setHorizon(Check check) {
        RumourSource x = Check.loaded("0>1*10+5;1>2*10+5;2>3*10+5;3>4*10+5;4>5*10+5;5>6*10+5;6>7*10+5");
        check.due("timeBy(1, 127, 4)", x.timeBy(1, 127, 4), 20);
        check.due("timeBy(1, 127, 5)", x.timeBy(1, 127, 5), -1);
        check.due("setHorizon(30)", x.setHorizon(30), 20);
        check.due("timeBy(1, 127, 6)", x.timeBy(1, 127, 6), 30);
        check.due("timeBy(1, 127, 7)", x.timeBy(1, 127, 7), -1);
        check.due("setHorizon(0)", x.setHorizon(0), 30);
        check.due("timeBy(1, 127, 0)", x.timeBy(1, 127, 0), 0);
        check.due("timeBy(1, 127, 1)", x.timeBy(1, 127, 1), -1);
        check.due("reach(1)", x.reach(1), 10_000_000);
        check.due("setHorizon(4)", x.setHorizon(4), 0);
        check.due("timeBy(1, 127, 1)", x.timeBy(1, 127, 1), -1);
        check.due("setHorizon(5)", x.setHorizon(5), 4);
        check.due("timeBy(1, 127, 1)", x.timeBy(1, 127, 1), 5);
        for (int bad : new int[] {-1, 31, LOW, HIGH}) {
            check.due("setHorizon(" + bad + ")", x.setHorizon(bad), -3);
        }
        check.due("setHorizon(20)", x.setHorizon(20), 5);
    }
}
