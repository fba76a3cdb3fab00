/** Promises 19 to 26: likelihoods, candidates, decoys, explanations, values. */
public final class SourcesTest {
    private static final int LOW = Integer.MIN_VALUE;
    private static final int HIGH = Integer.MAX_VALUE;

    public static void main(String[] args) {
        Check check = new Check("SourcesTest");
        likelihood(check);
        twelveEdgesThatMatter(check);
        candidates(check);
        belief(check);
        decoy(check);
        possible(check);
        explanation(check);
        values(check);
        nothingIsRecorded(check);
        check.end();
    }

    private static void likelihood(Check check) {
        RumourSource x = Check.loaded("0>1*5+2;1>2*4+1;3>2*9+3;2=3");
        check.due("likelihood(1)", x.likelihood(1), 200);
        check.due("likelihood(1), of a thousand", x.likelihood(1), 5 * 4 * 10);
        check.due("likelihood(8)", x.likelihood(8), 900);
        check.due("likelihood(9), the one or the other", x.likelihood(9), 1000 - 80 * 1);
        check.due("likelihood(4)", x.likelihood(4), 0);
        check.due("likelihood(2)", x.likelihood(2), 0);
        x.observe(2, -1);
        check.due("likelihood(9)", x.likelihood(9), 80);
        x.forget(2);
        check.due("likelihood(9)", x.likelihood(9), 1000);
        x.observe(0, -1);
        check.due("likelihood(1), the source never hears", x.likelihood(1), 0);
        x.observe(0, 1);
        check.due("likelihood(1), the source hears later", x.likelihood(1), 0);
        x.observe(0, 0);
        check.due("likelihood(1)", x.likelihood(1), 1000);
        x.observe(2, 3);
        x.setHorizon(2);
        check.due("likelihood(1), behind the horizon", x.likelihood(1), 0);
    }

    /** Three sources and four hearers: an outcome in which all twelve edges matter, and none works. */
    private static void twelveEdgesThatMatter(Check check) {
        RumourSource x = new RumourSource();
        for (int e = 0; e < 12; e++) {
            x.addEdge(e % 3, 3 + e / 3, 4, e % 5 + 1);
        }
        check.due("likelihood(7), nothing observed", x.likelihood(7), 1_000_000_000_000L);
        check.due("explanation(7)", x.explanation(7), 0);
        for (int node = 3; node < 7; node++) {
            x.observe(node, -1);
        }
        check.due("likelihood(7), none works", x.likelihood(7), 2_176_782_336L);
        check.due("explanation(7)", x.explanation(7), 0);
        check.due("timeBy(7, 4095, 6)", x.timeBy(7, 4095, 6), 1);
        check.due("fits(7, 4095)", x.fits(7, 4095), 0);
        check.holds("simulate(7, 5) reaches the start, and not 7",
            x.simulate(7, 5) >= 3 && x.observed(7) == -1);
    }

    private static void candidates(Check check) {
        RumourSource x = Check.loaded("0>1*5+2;2>1*7+2;3>1*5+2;4>1*0+2;5>1*10+2;6>1*10+1;1=2");
        check.due("candidates()", x.candidates(), 4);
        int[] ranked = {5, 2, 0, 3};
        for (int rank = 0; rank < 4; rank++) {
            check.due("candidate(" + rank + ")", x.candidate(rank), ranked[rank]);
        }
        for (int bad : new int[] {-1, 4, 8, LOW, HIGH}) {
            check.due("candidate(" + bad + ")", x.candidate(bad), -2);
        }
        x.observe(1, 3);
        check.due("candidates()", x.candidates(), 0);
        check.due("candidate(0)", x.candidate(0), -2);
        RumourSource y = new RumourSource();
        check.due("candidates() of a new object", y.candidates(), 8);
        for (int rank = 0; rank < 8; rank++) {
            check.due("candidate(" + rank + ") of equal ones", y.candidate(rank), rank);
        }
        check.due("candidate(8)", y.candidate(8), -2);
    }

    private static void belief(Check check) {
        RumourSource x = Check.loaded("0>1*5+2;2>1*7+2;3>1*5+2;4>1*0+2;5>1*10+2;6>1*10+1;1=2");
        int[] beliefs = {185, 0, 259, 185, 0, 370, 0, 0};
        for (int node = 0; node < 8; node++) {
            check.due("belief(" + node + ")", x.belief(node), beliefs[node]);
        }
        for (int bad : new int[] {-1, 8, LOW, HIGH}) {
            check.due("belief(" + bad + ")", x.belief(bad), -2);
        }
        x.observe(1, 3);
        check.due("belief(5), no candidates", x.belief(5), 0);
        check.due("belief(4) by a likelihood of 1", Check.loaded("4=0").belief(4), 1000);
        // 1000 times the greatest likelihood is far above an int
        RumourSource y = Check.loaded("0>1*10+1;1>2*10+1;2>3*10+1;3>4*10+1;4>5*10+1;5>6*10+1;"
            + "6>7*10+1;7>0*10+1;1>0*10+1;2>1*10+1;3>2*10+1;4>3*10+1");
        check.due("likelihood(1)", y.likelihood(1), 1_000_000_000_000L);
        check.due("belief(0)", y.belief(0), 125);
        y.observe(0, 0);
        check.due("belief(0)", y.belief(0), 1000);
    }

    private static void decoy(Check check) {
        RumourSource x = Check.loaded("0>1*5+2;2>1*7+2;3>1*7+2;6>1*9+1;1=2");
        check.due("decoy(0), the lower of two", x.decoy(0), 2);
        check.due("decoy(2)", x.decoy(2), 3);
        check.due("decoy(3)", x.decoy(3), 2);
        check.due("decoy(6), no candidate itself", x.decoy(6), 2);
        check.due("decoy(1), which hears at 0", x.decoy(1), -1);
        x.observe(2, -1);
        check.due("decoy(0)", x.decoy(0), 3);
        check.due("decoy(2)", x.decoy(2), -1);
        x.setEdge(2, 0, 2);
        check.due("decoy(0), of equal ones", x.decoy(0), 3);
        for (int bad : new int[] {-1, 8, LOW, HIGH}) {
            check.due("decoy(" + bad + ")", x.decoy(bad), -2);
        }
        RumourSource y = new RumourSource();
        check.due("decoy(0)", y.decoy(0), 1);
        check.due("decoy(7)", y.decoy(7), 0);
        y.observe(4, 0);
        check.due("decoy(7), the one that is needed", y.decoy(7), 4);
        check.due("decoy(4)", y.decoy(4), 0);
        RumourSource z = Check.loaded("0=0;1=-;2=-;3=-;4=-;5=-;6=-;7=-");
        check.due("decoy(0), a candidate without one", z.decoy(0), -1);
    }

    private static void possible(Check check) {
        RumourSource x = new RumourSource();
        check.due("possible()", x.possible(), 36);
        x.observe(0, 0);
        check.due("possible()", x.possible(), 8);
        x.observe(1, 0);
        check.due("possible(), two are needed", x.possible(), 1);
        check.due("candidates()", x.candidates(), 0);
        x.observe(2, 0);
        check.due("possible(), three are needed", x.possible(), 0);
        RumourSource y = Check.loaded("0>1*0+2;2>1*5+2;1=2");
        check.due("possible()", y.possible(), 1 + 6);
        y.setEdge(0, 1, 2);
        check.due("possible(), by a trust of 1", y.possible(), 2 + 6 + 5);
    }

    private static void explanation(Check check) {
        RumourSource x = Check.loaded("0>1*5+2;1>2*6+1;3>4*4+1;4>5*0+1;5>6*10+1");
        check.due("explanation(1), nothing observed", x.explanation(1), 2 + 16);
        x.observe(2, 3);
        check.due("explanation(1)", x.explanation(1), 1 + 2 + 16);
        check.due("explanation(8)", x.explanation(8), -1);
        x.observe(2, -1);
        check.due("explanation(1), the lowest of equal ones", x.explanation(1), 2 + 16);
        x.forget(2);
        x.observe(6, -1);
        check.due("explanation(16), the node 5 must not hear", x.explanation(16), 2 + 16);
        check.due("explanation(32), only by the weight 0", x.explanation(32), -1);
        // two ways of the same length and weight: the lower mask
        RumourSource y = Check.loaded("0>2*4+1;0>1*4+1;2>3*4+1;1>3*4+1;3=2");
        check.due("explanation(1)", y.explanation(1), 1 + 4);
        y.setEdge(3, 5, 1);
        check.due("explanation(1), the likelier way", y.explanation(1), 2 + 8);
        RumourSource w = Check.loaded("0>1*9+1;0>2*1+1;2>3*1+1");
        check.due("explanation(1), neither the lowest nor the fullest", w.explanation(1), 1);
        w.observe(3, 2);
        check.due("explanation(1)", w.explanation(1), 1 + 2 + 4);
        RumourSource z = new RumourSource();
        check.due("explanation(1) without edges", z.explanation(1), 0);
        z.observe(0, -1);
        check.due("explanation(1) without edges", z.explanation(1), -1);
        check.due("explanation(0)", z.explanation(0), -3);
        check.due("explanation(256)", z.explanation(256), -3);
    }

    private static void values(Check check) {
        RumourSource x = Check.loaded("0>1*5+2;1>2*10+1;3>1*0+5;4>1*5+4");
        check.due("values(1): 0, 2, 4, never", x.values(1), 4);
        check.due("values(2): 0, 1, 3, 5, never", x.values(2), 5);
        check.due("values(0)", x.values(0), 2);
        check.due("values(7)", x.values(7), 2);
        RumourSource y = Check.loaded("0>1*5+1;0>2*5+2;2>1*1+1;0=0");
        check.due("values(1) by the one source: 1, 3, never", y.values(1), 3);
        RumourSource z = Check.loaded("0=-;1=-;2=-;3=-;4=-;5=-;6=-");
        check.due("values(7), the only source", z.values(7), 1);
        x.observe(1, 2);
        check.due("values(1), observed", x.values(1), 1);
        check.due("values(2), which follows", x.values(2), 1);
        check.due("values(0), the only source", x.values(0), 1);
        x.observe(2, -1);
        check.due("values(1), observed, no candidate", x.values(1), 0);
        check.due("values(0), no candidate", x.values(0), 0);
        x.forget(2);
        x.observe(1, -1);
        check.due("values(2)", x.values(2), 2);
        x.forget(1);
        x.setHorizon(4);
        check.due("values(2): 0, 1, 3, never", x.values(2), 4);
        for (int bad : new int[] {-1, 8, LOW, HIGH}) {
            check.due("values(" + bad + ")", x.values(bad), -2);
        }
    }

    private static void nothingIsRecorded(Check check) {
        RumourSource x = Check.loaded("0>1*5+2;1>2*10+1;3>1*0+5;4>1*5+4;2=3");
        long before = x.digest();
        x.likelihood(3);
        x.candidates();
        x.candidate(0);
        x.belief(0);
        x.decoy(0);
        x.possible();
        x.explanation(1);
        x.values(0);
        x.values(2);
        x.fits(1, 1);
        x.timeBy(1, 1, 1);
        x.timeWeight(1, 1, 1);
        x.reach(1);
        check.due("digest()", x.digest(), before);
        check.due("undo(): the load alone is recorded", x.undo(), 0);
    }
}
