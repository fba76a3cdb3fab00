import java.util.Arrays;

/** The sentences of promises 19 to 26, sources, and of promise 32, the digest. */
final class SourceSentences {
    /** Told to 1 by 2, less likely by 0 and 3 alike, never by 4, and by 6 at another time. */
    private static final String FOUR_TO_ONE = "2>1*7+2;3>1*5+2;0>1*5+2;4>1*0+2;6>1*10+1;1=2";

    static void all(Sentences s) {
        likelihood(s);
        candidates(s);
        belief(s);
        decoy(s);
        possible(s);
        explanation(s);
        values(s);
        digest(s);
    }

    private static void likelihood(Sentences s) {
        s.section("Promise 19: likelihood");
        s.plain("Returns the likelihood of a start.");
        likelihoodStart(s.test("`start`: the mask of a start, 1 to 255"));
        likelihoodIs(s.test("Returns the likelihood;"));
        likelihoodBad(s.test("BAD_VALUE if start is out of range."));
    }

    private static void candidates(Sentences s) {
        s.section("Promise 20: candidates");
        candidatesAre(s.test("Returns the number of candidates."));
        s.plain("Returns the number.");
        s.section("Promise 21: candidate");
        s.plain("Returns a candidate.");
        candidateRank(s.test("`rank`: its rank, from 0"));
        candidateNode(s.test("Returns its node;"));
        candidateNone(s.test("BAD_INDEX if there is no such rank."));
    }

    private static void belief(Sentences s) {
        s.section("Promise 22: belief");
        s.plain("Returns the belief in a node.");
        beliefNode(s.test("`node`: 0 to 7"));
        beliefIs(s.test("Returns the belief in thousandths;"));
        beliefNone(s.test("0 if it is no candidate;"));
        beliefNoNode(s.test("BAD_INDEX if there is no such node."));
    }

    private static void decoy(Sentences s) {
        s.section("Promise 23: decoy");
        s.plain("Returns the best decoy for a node.");
        decoyNode(s.test("`node`: 0 to 7"));
        decoyOrNone(s.test("Returns the decoy; NONE if there is none;"));
        decoyNoNode(s.test("BAD_INDEX if there is no such node."));
    }

    private static void possible(Sentences s) {
        s.section("Promise 24: possible");
        possibleAre(s.test("Returns how many starts of one node and starts of two nodes are possible."));
        possibleTogether(s.test("Returns the number of both together."));
    }

    private static void explanation(Sentences s) {
        s.section("Promise 25: explanation");
        s.plain("Returns the explanation of a start.");
        explanationStart(s.test("`start`: the mask of a start, 1 to 255"));
        explanationOrNone(s.test("Returns the outcome; NONE if there is none;"));
        explanationBad(s.test("BAD_VALUE if start is out of range."));
    }

    private static void values(Sentences s) {
        s.section("Promise 26: values");
        valuesAre(s.test("Returns with how many values a node could be observed: the number of different"
            + " values, 0 to 30 and NONE, with which some candidate would stay possible, if the node"
            + " were observed with it, too."));
        valuesNode(s.test("`node`: 0 to 7"));
        s.plain("Returns the number;");
        valuesObserved(s.test("for a node that is observed 1 if there is a candidate, and 0 if there is"
            + " none;"));
        valuesNoNode(s.test("BAD_INDEX if there is no such node."));
    }

    private static void digest(Sentences s) {
        s.section("Promise 32: digest");
        s.plain("Returns a hash of the state.");
        digestIs(s.test("It begins with h = 17; for each of the following numbers v, in this order, h"
            + " becomes 31 * h + v (long arithmetic, with overflow): the number of edges; for each edge"
            + " its properties 0 to 3; H; observed() of all nodes; the sensors."));
        s.plain("Returns h.");
    }

    // ---- likelihood

    private static void likelihoodStart(Check check) {
        RumourSource x = Check.loaded("0>7*4+3;7=3");
        for (int start = 1; start <= 255; start++) {
            int due = start >= 128 || start % 2 == 0 ? 0 : 4;
            check.due("likelihood(" + start + ")", x.likelihood(start), due);
        }
        check.due("likelihood(0)", x.likelihood(0), -3);
        check.due("likelihood(256)", x.likelihood(256), -3);
    }

    private static void likelihoodIs(Check check) {
        check.due("likelihood(1) without edges", new RumourSource().likelihood(1), 1);
        RumourSource x = Check.withEdges(12);
        check.due("likelihood(1), nothing observed", x.likelihood(1), 1_000_000_000_000L);
        x.observe(0, -1);
        check.due("likelihood(1), none fits", x.likelihood(1), 0);
        RumourSource y = Check.loaded("0>1*5+2;1>2*4+1;3>2*9+3;2=3");
        check.due("likelihood(1)", y.likelihood(1), 5 * 4 * 10);
        check.due("likelihood(8)", y.likelihood(8), 10 * 10 * 9);
        check.due("likelihood(9), one of both or both", y.likelihood(9), 1000 - 80 * 1);
        y.observe(2, -1);
        check.due("likelihood(9), neither", y.likelihood(9), 80 * 1);
        y.observe(2, 3);
        y.setHorizon(2);
        check.due("likelihood(9), beyond the horizon", y.likelihood(9), 0);
        y.observe(2, -1);
        check.due("likelihood(9), never for the horizon", y.likelihood(9), 1000);
    }

    private static void likelihoodBad(Check check) {
        RumourSource x = Check.withEdges(3);
        for (int bad : Check.beyond(1, 255)) {
            check.due("likelihood(" + bad + ")", x.likelihood(bad), -3);
        }
    }

    // ---- candidates, candidate

    private static void candidatesAre(Check check) {
        check.due("candidates(), all", new RumourSource().candidates(), 8);
        check.due("candidates(), of twelve edges", Check.withEdges(12).candidates(), 8);
        RumourSource x = Check.loaded(FOUR_TO_ONE);
        check.due("candidates(), not by the weight 0", x.candidates(), 3);
        x.observe(1, 1);
        check.due("candidates()", x.candidates(), 1);
        x.observe(1, 3);
        check.due("candidates(), none", x.candidates(), 0);
        x.observe(1, 0);
        check.due("candidates(), itself", x.candidates(), 1);
        // 6 always tells it to 1
        x.observe(1, -1);
        check.due("candidates(), neither itself nor 6", x.candidates(), 6);
    }

    private static void candidateRank(Check check) {
        RumourSource x = new RumourSource();
        for (int rank = 0; rank < 8; rank++) {
            check.due("candidate(" + rank + ")", x.candidate(rank), rank);
        }
        check.due("candidate(8)", x.candidate(8), -2);
        check.due("candidate(-1)", x.candidate(-1), -2);
        RumourSource y = Check.loaded(FOUR_TO_ONE);
        int[] ranked = {2, 0, 3};
        for (int rank = 0; rank < 3; rank++) {
            check.due("candidate(" + rank + ")", y.candidate(rank), ranked[rank]);
        }
        check.due("candidate(3)", y.candidate(3), -2);
    }

    private static void candidateNode(Check check) {
        for (int node = 0; node < 8; node++) {
            RumourSource x = new RumourSource();
            x.observe(node, 0);
            check.due("candidate(0), the node " + node, x.candidate(0), node);
            check.due("candidate(1)", x.candidate(1), -2);
        }
        RumourSource y = Check.loaded("0>1*1+1;2>1*2+1;3>1*3+1;4>1*4+1;5>1*5+1;6>1*6+1;7>1*7+1;1=1");
        for (int rank = 0; rank < 6; rank++) {
            check.due("candidate(" + rank + ")", y.candidate(rank), 7 - rank);
        }
        check.due("candidate(6), the least likely", y.candidate(6), 0);
        check.due("candidate(7)", y.candidate(7), -2);
    }

    private static void candidateNone(Check check) {
        RumourSource x = Check.loaded(FOUR_TO_ONE);
        for (int bad : Check.beyond(0, 2)) {
            check.due("candidate(" + bad + ")", x.candidate(bad), -2);
        }
        x.observe(1, 3);
        check.due("candidate(0), there are none", x.candidate(0), -2);
        check.due("candidate(-1), there are none", x.candidate(-1), -2);
    }

    // ---- belief

    private static void beliefNode(Check check) {
        for (int node = 0; node < 8; node++) {
            RumourSource x = new RumourSource();
            check.due("belief(" + node + "), of eight", x.belief(node), 125);
            x.observe(node, 0);
            check.due("belief(" + node + "), of one", x.belief(node), 1000);
            check.due("belief of another one", x.belief(7 - node), 0);
        }
        check.due("belief(8)", new RumourSource().belief(8), -2);
        check.due("belief(-1)", new RumourSource().belief(-1), -2);
    }

    private static void beliefIs(Check check) {
        RumourSource x = Check.loaded(FOUR_TO_ONE);
        check.due("belief(2), floor(7000 / 17)", x.belief(2), 411);
        check.due("belief(3), floor(5000 / 17)", x.belief(3), 294);
        check.due("belief(0), floor(5000 / 17)", x.belief(0), 294);
        RumourSource y = Check.loaded("1>0*9+1;2>1*1+1;3>2*1+1;4>3*1+1;5>4*1+1");
        y.observe(0, 5);
        check.due("belief(5), the only one", y.belief(5), 1000);
        RumourSource z = Check.loaded("0>1*1+1;1>2*1+1;2>3*1+1;4>3*10+3;3=3");
        check.due("belief(0), above 0 and rounded down to 0", z.belief(0), 0);
        check.due("belief(4), below 1000", z.belief(4), 999);
    }

    private static void beliefNone(Check check) {
        RumourSource x = Check.loaded(FOUR_TO_ONE);
        check.due("belief(4), by the weight 0 alone", x.belief(4), 0);
        check.due("belief(6), at another time", x.belief(6), 0);
        check.due("belief(1)", x.belief(1), 0);
        check.due("belief(7)", x.belief(7), 0);
        x.observe(1, 3);
        for (int node = 0; node < 8; node++) {
            check.due("belief(" + node + "), there are no candidates", x.belief(node), 0);
        }
    }

    private static void beliefNoNode(Check check) {
        RumourSource x = Check.loaded(FOUR_TO_ONE);
        RumourSource none = Check.loaded("0=0;1=0");
        for (int bad : Check.beyond(0, 7)) {
            check.due("belief(" + bad + ")", x.belief(bad), -2);
            check.due("belief(" + bad + ") without candidates", none.belief(bad), -2);
        }
    }

    // ---- decoy

    private static void decoyNode(Check check) {
        for (int node = 0; node < 8; node++) {
            RumourSource x = new RumourSource();
            check.due("decoy(" + node + ")", x.decoy(node), node == 0 ? 1 : 0);
            x.observe(node, 0);
            check.due("decoy of another one", x.decoy(7 - node), node);
        }
        check.due("decoy(8)", new RumourSource().decoy(8), -2);
        check.due("decoy(-1)", new RumourSource().decoy(-1), -2);
    }

    private static void decoyOrNone(Check check) {
        RumourSource x = Check.loaded(FOUR_TO_ONE);
        check.due("decoy(0)", x.decoy(0), 2);
        check.due("decoy(2), the lowest of two", x.decoy(2), 0);
        check.due("decoy(4), no candidate", x.decoy(4), 2);
        check.due("decoy(1), which hears at 0", x.decoy(1), -1);
        check.due("decoy(6), which tells at 1", x.decoy(6), -1);
        x.observe(1, 0);
        check.due("decoy(7), the node itself", x.decoy(7), 1);
        check.due("decoy(1)", x.decoy(1), 0);
        RumourSource y = Check.loaded("0=0;1=-;2=-;3=-;4=-;5=-;6=-;7=-");
        for (int node = 0; node < 8; node++) {
            check.due("decoy(" + node + "), there is none", y.decoy(node), -1);
        }
        RumourSource z = Check.loaded("0=0;6=0");
        check.due("decoy(6)", z.decoy(6), 0);
        check.due("decoy(0)", z.decoy(0), 6);
        check.due("decoy(1)", z.decoy(1), -1);
    }

    private static void decoyNoNode(Check check) {
        RumourSource none = Check.loaded("0=0;1=0;2=0");
        for (int bad : Check.beyond(0, 7)) {
            check.due("decoy(" + bad + ")", new RumourSource().decoy(bad), -2);
            check.due("decoy(" + bad + "), there are none", none.decoy(bad), -2);
        }
    }

    // ---- possible

    private static void possibleAre(Check check) {
        RumourSource x = Check.loaded("0>1*0+2;2>1*5+2;3>1*10+3;1=2");
        int due = 0;
        for (int start = 1; start <= 255; start++) {
            boolean oneOrTwo = Integer.bitCount(start) <= 2;
            due += oneOrTwo && x.likelihood(start) > 0 ? 1 : 0;
        }
        check.due("possible()", x.possible(), due);
        check.due("possible(): 2, and 2 with each but 1", due, 1 + 6);
        x.observe(2, -1);
        check.due("possible(), none", x.possible(), 0);
        for (int one = 0; one < 8; one++) {
            RumourSource y = new RumourSource();
            y.observe(one, 0);
            check.due("possible(), " + one + " alone and with each other one", y.possible(), 8);
            for (int other = one + 1; other < 8; other++) {
                y.observe(other, 0);
                check.due("possible(), " + one + " and " + other, y.possible(), 1);
                y.forget(other);
            }
        }
    }

    private static void possibleTogether(Check check) {
        RumourSource x = new RumourSource();
        check.due("possible(), 8 and 28", x.possible(), 36);
        x.observe(7, 0);
        check.due("possible(), 1 and 7", x.possible(), 8);
        x.observe(6, 0);
        check.due("possible(), 0 and 1", x.possible(), 1);
        x.observe(5, 0);
        check.due("possible(), only by three", x.possible(), 0);
        check.due("likelihood(224)", x.likelihood(224), 1);
        RumourSource y = Check.loaded("0=0;1=-;2=-;3=-;4=-;5=-;6=-;7=-");
        check.due("possible(), 1 and 0", y.possible(), 1);
        check.due("possible(), with twelve edges", Check.withEdges(12).possible(), 36);
    }

    // ---- explanation

    private static void explanationStart(Check check) {
        RumourSource x = Check.loaded("0>7*4+3;7=3");
        for (int start = 1; start <= 255; start++) {
            int due = start >= 128 || start % 2 == 0 ? -1 : 1;
            check.due("explanation(" + start + ")", x.explanation(start), due);
        }
        check.due("explanation(0)", x.explanation(0), -3);
        check.due("explanation(256)", x.explanation(256), -3);
    }

    private static void explanationOrNone(Check check) {
        check.due("explanation(1) without edges", new RumourSource().explanation(1), 0);
        String edges = "0>1*6+2;1>2*5+1;0>2*4+3;3>1*0+1;2>4*5+1;4>0*10+1";
        for (int seen = -1; seen <= 5; seen++) {
            for (int start = 1; start < 32; start++) {
                RumourSource x = Check.loaded(edges);
                x.observe(4, seen);
                long greatest = 0;
                int due = -1;
                for (int outcome = 0; outcome < 64; outcome++) {
                    long weight = x.fits(start, outcome) * x.weight(outcome);
                    if (weight > greatest) {
                        greatest = weight;
                        due = outcome;
                    }
                }
                check.due("explanation(" + start + "), 4 observed with " + seen, x.explanation(start), due);
            }
        }
        RumourSource full = Check.withEdges(12);
        for (int e = 0; e < 12; e++) {
            full.setEdge(e, 6, 1);
        }
        check.due("explanation(1), all twelve", full.explanation(1), 4095);
        full.observe(0, 1);
        check.due("explanation(1), not possible", full.explanation(1), -1);
    }

    private static void explanationBad(Check check) {
        RumourSource none = Check.loaded("0=0;1=0;2=0");
        for (int bad : Check.beyond(1, 255)) {
            check.due("explanation(" + bad + ")", Check.withEdges(3).explanation(bad), -3);
            check.due("explanation(" + bad + "), not possible", none.explanation(bad), -3);
        }
    }

    // ---- values

    /** Observes a node with each value in turn, and counts those by which there are candidates. */
    private static int countValues(RumourSource x, int node) {
        int count = 0;
        for (int value = -1; value <= 30; value++) {
            x.observe(node, value);
            count += x.candidates() > 0 ? 1 : 0;
        }
        x.forget(node);
        return count;
    }

    private static void valuesAre(Check check) {
        String edges = "0>1*5+5;1>2*10+5;2>3*10+5;3>4*10+5;4>5*10+5;5>6*10+5;3>1*0+1;7>1*5+4";
        for (String seen : new String[] {"", ";3=15", ";0=-", ";1=-", ";2=10;0=0", ";7=0;0=0"}) {
            for (int horizon : new int[] {0, 9, 20, 30}) {
                for (int node = 0; node < 8; node++) {
                    if (seen.indexOf(";" + node + "=") >= 0) {
                        continue;
                    }
                    RumourSource x = Check.loaded(edges + seen);
                    x.setHorizon(horizon);
                    int due = countValues(x, node);
                    check.due("values(" + node + ") by '" + seen + "' and " + horizon, x.values(node), due);
                }
            }
        }
        RumourSource y = Check.loaded("0>1*5+5;1>2*10+5;2>3*10+5;3>4*10+5;4>5*10+5;5>6*10+5");
        y.setHorizon(30);
        check.due("values(6): 0, 5 .. 30, never", y.values(6), 8);
        check.due("values(1): 0, 5, never", y.values(1), 3);
        y.setHorizon(29);
        check.due("values(6), 30 is beyond the horizon", y.values(6), 7);
        for (int node = 0; node < 8; node++) {
            RumourSource x = Check.withEdges(12);
            x.setEdge(0, 5, 1);
            check.holds("there are several for " + node, x.values(node) > 3);
            for (int e = 11; e >= 0; e--) {
                x.removeEdge(e);
            }
            check.due("values(" + node + "), when the edges have gone: 0, never", x.values(node), 2);
        }
        RumourSource z = Check.loaded("0=-;1=-;2=-;3=-;4=-;5=-;6=-");
        check.due("values(7), it can only be 0", z.values(7), 1);
        RumourSource none = Check.loaded("0=0;1=0");
        check.due("values(7), there are no candidates", none.values(7), 0);
    }

    private static void valuesNode(Check check) {
        RumourSource x = new RumourSource();
        for (int node = 0; node < 8; node++) {
            check.due("values(" + node + "): 0, never", x.values(node), 2);
        }
        check.due("values(8)", x.values(8), -2);
        check.due("values(-1)", x.values(-1), -2);
    }

    private static void valuesObserved(Check check) {
        RumourSource x = Check.loaded("0>1*5+2;1>2*10+1");
        check.due("values(1), unobserved: 0, 2, never", x.values(1), 3);
        for (int seen : new int[] {0, 2, -1}) {
            x.observe(1, seen);
            check.due("values(1), observed with " + seen, x.values(1), 1);
        }
        for (int seen : new int[] {1, 3, 30}) {
            x.observe(1, seen);
            check.due("values(1), observed with " + seen, x.values(1), 0);
        }
        RumourSource y = Check.loaded("0=0;1=0");
        check.due("values(0), a candidate of two nodes is none", y.values(0), 0);
        y.observe(1, -1);
        check.due("values(0)", y.values(0), 1);
        check.due("values(1)", y.values(1), 1);
    }

    private static void valuesNoNode(Check check) {
        RumourSource none = Check.loaded("0=0;1=0");
        for (int bad : Check.beyond(0, 7)) {
            check.due("values(" + bad + ")", Check.withEdges(3).values(bad), -2);
            check.due("values(" + bad + "), there are no candidates", none.values(bad), -2);
        }
    }

    // ---- digest

    private static long hash(int... numbers) {
        long h = 17;
        for (int v : numbers) {
            h = 31 * h + v;
        }
        return h;
    }

    private static void digestIs(Check check) {
        RumourSource x = new RumourSource();
        check.due("digest() of a new object", x.digest(),
            hash(0, 20, 100, 100, 100, 100, 100, 100, 100, 100, 255));
        Check.type(x, "6>2*7+4;0=0;7=-;2=30");
        check.due("digest(), a text changes nothing", x.digest(),
            hash(0, 20, 100, 100, 100, 100, 100, 100, 100, 100, 255));
        x.load();
        check.due("digest() with an edge", x.digest(),
            hash(1, 6, 2, 7, 4, 20, 0, 100, 30, 100, 100, 100, 100, -1, 255));
        x.setHorizon(0);
        x.setSensors(1);
        x.addEdge(2, 6, 0, 5);
        check.due("digest() with two edges", x.digest(),
            hash(2, 6, 2, 7, 4, 2, 6, 0, 5, 0, 0, 100, 30, 100, 100, 100, 100, -1, 1));
        check.due("digest() again", x.digest(),
            hash(2, 6, 2, 7, 4, 2, 6, 0, 5, 0, 0, 100, 30, 100, 100, 100, 100, -1, 1));
        x.removeEdge(0);
        check.due("digest(), an edge that has gone leaves nothing", x.digest(),
            hash(1, 2, 6, 0, 5, 0, 0, 100, 30, 100, 100, 100, 100, -1, 1));
        x.undo();
        x.undo();
        x.undo();
        x.undo();
        check.due("digest() after undo()", x.digest(),
            hash(1, 6, 2, 7, 4, 20, 0, 100, 30, 100, 100, 100, 100, -1, 255));
        RumourSource full = Check.withEdges(12);
        int[] numbers = new int[1 + 48 + 1 + 8 + 1];
        numbers[0] = 12;
        for (int e = 0; e < 12; e++) {
            numbers[1 + 4 * e] = Check.from(e);
            numbers[2 + 4 * e] = Check.to(e);
            numbers[3 + 4 * e] = e % 11;
            numbers[4 + 4 * e] = e % 5 + 1;
        }
        numbers[49] = 20;
        Arrays.fill(numbers, 50, 58, 100);
        numbers[58] = 255;
        check.due("digest() with twelve edges", full.digest(), hash(numbers));
    }
}
