/** The sentences on nodes and edges, outcomes, observations and the simulation. */
final class DescriptionSentences {
    static void all(Sentences s) {
        s.section("What it is");
        s.plain("The source of a rumour. A rumour is told along edges that work by chance, according to"
            + " trust, and that take time; from the times at which some nodes heard it, exact"
            + " likelihoods of sources, and of a source with a decoy, are found in whole numbers; the"
            + " class also simulates rumours, tells when nodes hear of them, and explains observations"
            + " by the likeliest edges.");
        lastCall(s.test("An object is used for at most 512 calls after it has been made; what later"
            + " calls answer is free."));
        s.section("Description");
        nodesAndEdges(s);
        observations(s);
        simulation(s);
    }

    private static void nodesAndEdges(Sentences s) {
        s.plain("Nodes, edges");
        eightNodes(s.test("There are 8 nodes, numbered from 0."));
        twelveEdges(s.test("There are at most 12 edges, numbered from 0 in the order in which they were"
            + " added."));
        oneEdgeEachWay(s.test("An edge goes from a node to another one; there is at most one edge from"
            + " a node to another one."));
        trustAndDelay(s.test("It has a trust, 0 to 10, and a delay, 1 to 5."));
        outcomes(s.test("An outcome is a set of edges that work, as a mask: the sum of 2^e for each"
            + " edge e that works; all other edges do not work."));
        weights(s.test("The weight of an outcome is the product of the trusts of all edges that work"
            + " and of (10 minus the trust) of all that do not."));
        sumsOfWeights(s.test("(So the weights of all outcomes sum to 10^E, where E is the number of"
            + " edges; the weight of the only outcome without edges is 1.)"));
        horizon(s.test("There is a horizon H, 0 to 30 (20 at first)."));
        starts(s.test("A start is a set of 1 to 8 nodes, as a mask."));
        hearing(s.test("By an outcome, with a start, a node hears the rumour at the time 0, if it is in"
            + " the start, and otherwise at the least sum of the delays of a path of edges that work"
            + " from a node of the start to it; if there is no such path, or this time is greater than"
            + " H, it never hears it."));
    }

    private static void observations(Sentences s) {
        threeKinds(s.test("Each node is unobserved (at first), or observed with a time from 0 to 30, or"
            + " observed as one that never hears the rumour."));
        fits(s.test("An outcome fits the observations, with a start, if each node that is observed with"
            + " a time hears the rumour just at this time, and each one that is observed as never"
            + " hearing it never hears it."));
        likelihood(s.test("The likelihood of a start is the sum of the weights of all outcomes that fit"
            + " with it."));
        possible(s.test("A start is possible if its likelihood is above 0."));
        explanation(s.test("The explanation of a start is the outcome that fits with the greatest"
            + " weight above 0, of several the lowest mask; there is none if the start is not"
            + " possible."));
        candidates(s.test("The candidates are the starts of one node that are possible."));
        ranks(s.test("They are ranked by descending likelihood, equal ones by ascending numbers of"
            + " their nodes."));
        belief(s.test("The belief in a candidate, in thousandths, is floor(1000 * (its likelihood) /"
            + " (sum of the likelihoods of all candidates))."));
        decoy(s.test("A decoy for a node s (whether it is a candidate or not) is another node t, such"
            + " that the start of s and t is possible."));
        bestDecoy(s.test("The best decoy is the one with which this start has the greatest likelihood,"
            + " of several the lowest one."));
    }

    private static void simulation(Sentences s) {
        draws(s.test("A rumour is simulated with a start and an int x: for each edge in order x becomes"
            + " x * 1103515245 + 12345 (int arithmetic with overflow), and the edge works if"
            + " (x >>> 8) % 10 is less than its trust."));
        sensors(s.test("There is a set of sensors, a mask of nodes (255 at first)."));
        observedBySensors(s.test("Then all nodes that are sensors are observed as they hear the rumour,"
            + " or never hear it, and all others are unobserved (whatever they were before)."));
    }

    // ---- the limit of calls

    private static void lastCall(Check check) {
        RumourSource x = new RumourSource();
        for (int call = 1; call < 512; call++) {
            x.setHorizon(call % 31);
        }
        check.due("setHorizon(30) as the call 512", x.setHorizon(30), 511 % 31);
        RumourSource y = new RumourSource();
        for (int call = 1; call < 510; call += 2) {
            y.observe(0, call % 31);
            y.undo();
        }
        check.due("observed(0) as the call 511", y.observed(0), 100);
        check.due("undo() as the call 512", y.undo(), -4);
        RumourSource z = new RumourSource();
        for (int call = 1; call <= 120; call++) {
            z.type('0');
        }
        for (int call = 121; call < 512; call++) {
            z.textFault();
        }
        check.due("clearText() as the call 512", z.clearText(), 120);
        RumourSource w = Check.withEdges(12);
        for (int call = 13; call < 511; call++) {
            w.likelihood(call % 255 + 1);
        }
        check.due("likelihood(1) as the call 511", w.likelihood(1), 1_000_000_000_000L);
        check.due("possible() as the call 512", w.possible(), 36);
    }

    // ---- nodes, edges

    private static void eightNodes(Check check) {
        RumourSource x = new RumourSource();
        check.due("candidates()", x.candidates(), 8);
        check.due("reach(255)", x.reach(255), 8);
        check.due("simulate(255, 0)", x.simulate(255, 0), 8);
        for (int node = 0; node < 8; node++) {
            check.due("observed(" + node + ")", x.observed(node), 0);
        }
        check.due("addEdge(0, 7, 5, 1)", x.addEdge(0, 7, 5, 1), 0);
        check.due("addEdge(7, 0, 5, 1)", x.addEdge(7, 0, 5, 1), 1);
        check.due("edgeBetween(7, 0)", x.edgeBetween(7, 0), 1);
        for (int bad : Check.beyond(0, 7)) {
            check.due("observed(" + bad + ")", x.observed(bad), -2);
            check.due("observe(" + bad + ", 1)", x.observe(bad, 1), -2);
            check.due("addEdge(" + bad + ", 1, 5, 1)", x.addEdge(bad, 1, 5, 1), -2);
            check.due("addEdge(1, " + bad + ", 5, 1)", x.addEdge(1, bad, 5, 1), -2);
            check.due("values(" + bad + ")", x.values(bad), -2);
        }
    }

    private static void twelveEdges(Check check) {
        RumourSource x = new RumourSource();
        for (int e = 0; e < 12; e++) {
            check.due("edges()", x.edges(), e);
            check.due("addEdge(..) as the edge " + e, x.addEdge(Check.from(e), Check.to(e), 5, 1), e);
        }
        check.due("addEdge(5, 0, 5, 1) as the edge 12", x.addEdge(5, 0, 5, 1), -5);
        check.due("edges()", x.edges(), 12);
        for (int e = 0; e < 12; e++) {
            check.due("edge(" + e + ", 0)", x.edge(e, 0), Check.from(e));
            check.due("edge(" + e + ", 1)", x.edge(e, 1), Check.to(e));
        }
        check.due("edge(12, 0)", x.edge(12, 0), -2);
        check.due("removeEdge(0)", x.removeEdge(0), 11);
        check.due("addEdge(5, 0, 5, 1), where one has gone", x.addEdge(5, 0, 5, 1), 11);
        check.due("addEdge(0, 1, 5, 1)", x.addEdge(0, 1, 5, 1), -5);
    }

    private static void oneEdgeEachWay(Check check) {
        RumourSource x = new RumourSource();
        for (int node = 0; node < 8; node++) {
            check.due("addEdge to itself, " + node, x.addEdge(node, node, 5, 1), -3);
        }
        check.due("addEdge(3, 4, 5, 1)", x.addEdge(3, 4, 5, 1), 0);
        check.due("addEdge(3, 4, 6, 2), a second one", x.addEdge(3, 4, 6, 2), -4);
        check.due("timeBy(16, 1, 3), backwards", x.timeBy(16, 1, 3), -1);
        check.due("addEdge(4, 3, 5, 2), the other way", x.addEdge(4, 3, 5, 2), 1);
        check.due("timeBy(16, 2, 3)", x.timeBy(16, 2, 3), 2);
        check.due("removeEdge(0)", x.removeEdge(0), 1);
        check.due("addEdge(3, 4, 6, 2), when it has gone", x.addEdge(3, 4, 6, 2), 1);
    }

    private static void trustAndDelay(Check check) {
        for (int trust = 0; trust <= 10; trust++) {
            for (int delay = 1; delay <= 5; delay++) {
                RumourSource x = new RumourSource();
                String numbers = trust + ", " + delay + ")";
                check.due("addEdge(0, 1, " + numbers, x.addEdge(0, 1, trust, delay), 0);
                check.due("its trust", x.edge(0, 2), trust);
                check.due("its delay", x.edge(0, 3), delay);
                check.due("setEdge(0, " + numbers, x.setEdge(0, trust, delay), trust);
            }
        }
        RumourSource y = Check.withEdges(1);
        for (int bad : Check.beyond(0, 10)) {
            check.due("addEdge(3, 4, " + bad + ", 1)", y.addEdge(3, 4, bad, 1), -3);
            check.due("setEdge(0, " + bad + ", 1)", y.setEdge(0, bad, 1), -3);
        }
        for (int bad : Check.beyond(1, 5)) {
            check.due("addEdge(3, 4, 5, " + bad + ")", y.addEdge(3, 4, 5, bad), -3);
            check.due("setEdge(0, 5, " + bad + ")", y.setEdge(0, 5, bad), -3);
        }
        check.due("edges()", y.edges(), 1);
    }

    private static void outcomes(Check check) {
        RumourSource x = Check.withEdges(12);
        for (int works = 0; works < 12; works++) {
            for (int e = 0; e < 12; e++) {
                int time = x.timeBy(1 << Check.from(e), 1 << works, Check.to(e));
                check.due("the time by the edge " + e + ", where only " + works + " works", time,
                    e == works ? e % 5 + 1 : -1);
            }
        }
        RumourSource y = Check.withEdges(12);
        for (int e = 0; e < 12; e++) {
            int start = 1 << Check.from(e);
            check.due("the time by the edge " + e + ", where none works",
                y.timeBy(start, 0, Check.to(e)), -1);
            check.holds("by the edge " + e + " it is heard, where all work",
                y.timeBy(start, 4095, Check.to(e)) > 0);
        }
        check.due("timeBy(1, 4096, 0)", y.timeBy(1, 4096, 0), -3);
        check.due("timeBy(1, -1, 0)", y.timeBy(1, -1, 0), -3);
        y.removeEdge(11);
        check.due("timeBy(1, 2047, 0), all of eleven", y.timeBy(1, 2047, 0), 0);
        check.due("timeBy(1, 2048, 0), an edge that isn't there", y.timeBy(1, 2048, 0), -3);
        check.due("weight(2048)", y.weight(2048), -3);
    }

    private static void weights(Check check) {
        RumourSource x = Check.loaded("0>1*3+1;1>2*10+2;2>3*0+3;3>4*5+4");
        long[] due = {0, 0, 7 * 10 * 10 * 5, 3 * 10 * 10 * 5, 0, 0, 0, 0};
        for (int outcome = 0; outcome < 16; outcome++) {
            check.due("weight(" + outcome + ")", x.weight(outcome), due[outcome % 8]);
        }
        RumourSource y = Check.withEdges(12);
        for (int e = 0; e < 12; e++) {
            y.setEdge(e, 10, 1);
        }
        check.due("weight(4095), the greatest", y.weight(4095), 1_000_000_000_000L);
        check.due("weight(4094), where the last doesn't work", y.weight(4094), 0);
        check.due("weight(2047)", y.weight(2047), 0);
    }

    private static void sumsOfWeights(Check check) {
        RumourSource none = new RumourSource();
        check.due("weight(0) without edges", none.weight(0), 1);
        check.due("weight(1) without edges", none.weight(1), -3);
        long due = 1;
        for (int edges = 0; edges <= 12; edges++) {
            long sum = 0;
            for (int first = 0; first < 1 << edges; first += 256) {
                RumourSource x = Check.withEdges(edges);
                for (int outcome = first; outcome < Math.min(first + 256, 1 << edges); outcome++) {
                    sum += x.weight(outcome);
                }
            }
            check.due("the sum of all weights with " + edges + " edges", sum, due);
            due *= 10;
        }
    }

    private static void horizon(Check check) {
        RumourSource x = new RumourSource();
        check.due("setHorizon(0)", x.setHorizon(0), 20);
        for (int h = 1; h <= 30; h++) {
            check.due("setHorizon(" + h + ")", x.setHorizon(h), h - 1);
        }
        for (int bad : Check.beyond(0, 30)) {
            check.due("setHorizon(" + bad + ")", x.setHorizon(bad), -3);
        }
        check.due("setHorizon(20)", x.setHorizon(20), 30);
        RumourSource y = Check.loaded("0>1*5+5;1>2*5+5;2>3*5+5;3>4*5+5;4>5*5+1");
        check.due("timeBy(1, 31, 4), at 20", y.timeBy(1, 31, 4), 20);
        check.due("timeBy(1, 31, 5), at 21", y.timeBy(1, 31, 5), -1);
    }

    private static void starts(Check check) {
        RumourSource x = new RumourSource();
        for (int start = 1; start <= 255; start++) {
            check.due("reach(" + start + ")", x.reach(start), Integer.bitCount(start));
            check.due("timeBy(" + start + ", 0, 6)", x.timeBy(start, 0, 6), start / 64 % 2 == 1 ? 0 : -1);
        }
        for (int bad : new int[] {0, -1, 256, 257, -255, Integer.MIN_VALUE, Integer.MAX_VALUE}) {
            RumourSource y = new RumourSource();
            check.due("simulate(" + bad + ", 1)", y.simulate(bad, 1), -3);
            check.due("timeBy(" + bad + ", 0, 0)", y.timeBy(bad, 0, 0), -3);
            check.due("fits(" + bad + ", 0)", y.fits(bad, 0), -3);
            check.due("timeWeight(" + bad + ", 0, 0)", y.timeWeight(bad, 0, 0), -3);
            check.due("reach(" + bad + ")", y.reach(bad), -3);
            check.due("likelihood(" + bad + ")", y.likelihood(bad), -3);
            check.due("explanation(" + bad + ")", y.explanation(bad), -3);
        }
    }

    /** The time as timeBy() tells it by an outcome, and as timeWeight() does where all edges work. */
    private static void heard(Check check, RumourSource x, int start, int node, int time) {
        int all = (1 << x.edges()) - 1;
        check.due("timeBy(" + start + ", " + all + ", " + node + ")", x.timeBy(start, all, node), time);
        for (int e = 0; e < x.edges(); e++) {
            x.setEdge(e, 10, x.edge(e, 3));
        }
        check.due("timeWeight(" + start + ", " + node + ", " + time + ")",
            x.timeWeight(start, node, time), x.weight(all));
    }

    private static void hearing(Check check) {
        RumourSource x = Check.loaded("0>1*5+2;1>0*5+2");
        heard(check, x, 3, 0, 0);
        heard(check, x, 3, 1, 0);
        heard(check, x, 1, 0, 0);
        heard(check, x, 1, 1, 2);
        RumourSource y = Check.loaded("0>3*5+5;0>1*5+1;1>2*5+1;2>3*5+1;3>0*5+1");
        heard(check, y, 1, 3, 3);
        heard(check, y, 5, 3, 1);
        heard(check, y, 8, 2, 3);
        heard(check, y, 1, 7, -1);
        check.due("timeBy(1, 7, 3), the shorter path is broken", y.timeBy(1, 7, 3), 5);
        check.due("timeBy(1, 6, 3), all paths are broken", y.timeBy(1, 6, 3), -1);
        y.setHorizon(3);
        heard(check, y, 1, 3, 3);
        check.due("timeBy(1, 7, 3), the path is too long", y.timeBy(1, 7, 3), -1);
        y.setHorizon(2);
        heard(check, y, 1, 3, -1);
        heard(check, y, 1, 2, 2);
        y.setHorizon(0);
        heard(check, y, 1, 1, -1);
        heard(check, y, 1, 0, 0);
        RumourSource z = Check.loaded("6>7*5+1;5>6*5+5;4>5*5+5;3>4*5+5;2>3*5+5;1>2*5+5;0>1*5+5");
        z.setHorizon(30);
        heard(check, z, 1, 6, 30);
        heard(check, z, 1, 7, -1);
        heard(check, z, 3, 7, 26);
        check.due("simulate(1, 0)", z.simulate(1, 0), 7);
        check.due("reach(1)", z.reach(1), 70_000_000L);
        z.setEdge(1, 10, 4);
        heard(check, z, 1, 7, 30);
        z.setHorizon(29);
        heard(check, z, 1, 7, -1);
        heard(check, z, 1, 6, 29);
    }

    // ---- observations

    private static void threeKinds(Check check) {
        RumourSource x = new RumourSource();
        for (int node = 0; node < 8; node++) {
            check.due("observed(" + node + ")", x.observed(node), 100);
            check.due("observe(" + node + ", 0)", x.observe(node, 0), 100);
            check.due("observe(" + node + ", 30)", x.observe(node, 30), 0);
            check.due("observe(" + node + ", -1)", x.observe(node, -1), 30);
            check.due("forget(" + node + ")", x.forget(node), -1);
            check.due("observed(" + node + ")", x.observed(node), 100);
        }
        for (int time = 0; time <= 30; time++) {
            x.observe(3, time);
            check.due("observed(3)", x.observed(3), time);
        }
        check.due("observe(3, 31)", x.observe(3, 31), -3);
        check.due("observe(3, -2)", x.observe(3, -2), -3);
        check.due("observe(3, 100)", x.observe(3, 100), -3);
    }

    private static void fits(Check check) {
        RumourSource x = Check.loaded("0>1*5+3;1>2*5+4");
        check.due("fits(1, 3), nothing observed", x.fits(1, 3), 1);
        int[] times = {2, 3, 4, -1};
        int[] heard = {0, 1, 0, 0};
        int[] unheard = {0, 0, 0, 1};
        for (int i = 0; i < times.length; i++) {
            x.observe(1, times[i]);
            check.due("fits(1, 1), 1 observed with " + times[i], x.fits(1, 1), heard[i]);
            check.due("fits(1, 0), 1 observed with " + times[i], x.fits(1, 0), unheard[i]);
            check.due("likelihood(1)", x.likelihood(1), 50L * heard[i] + 50L * unheard[i]);
        }
        x.observe(1, 3);
        x.observe(2, 6);
        check.due("fits(1, 3), of two only one", x.fits(1, 3), 0);
        x.observe(2, 7);
        check.due("fits(1, 3), of two both", x.fits(1, 3), 1);
        check.due("fits(3, 3), which is too early", x.fits(3, 3), 0);
        x.observe(0, 0);
        check.due("fits(1, 3), the start at 0", x.fits(1, 3), 1);
        x.observe(0, -1);
        check.due("fits(1, 3), the start never", x.fits(1, 3), 0);
        x.observe(0, 0);
        x.setHorizon(6);
        check.due("fits(1, 3), observed with a time beyond the horizon", x.fits(1, 3), 0);
        check.due("likelihood(1)", x.likelihood(1), 0);
        x.observe(2, -1);
        check.due("fits(1, 3), never heard for the horizon", x.fits(1, 3), 1);
        check.due("likelihood(1)", x.likelihood(1), 50);
        RumourSource y = Check.loaded("0>1*0+3;2=0");
        check.due("fits(1, 1), 2 isn't in the start", y.fits(1, 1), 0);
        check.due("likelihood(1), 2 isn't in the start", y.likelihood(1), 0);
        check.due("fits(5, 1), 2 is in the start", y.fits(5, 1), 1);
        check.due("likelihood(5), 2 is in the start", y.likelihood(5), 10);
        y.observe(1, 3);
        check.due("fits(5, 1), though of the weight 0", y.fits(5, 1), 1);
    }

    private static void likelihood(Check check) {
        check.due("likelihood(1) without edges", new RumourSource().likelihood(1), 1);
        check.due("likelihood(255), all fit", Check.withEdges(12).likelihood(255), 1_000_000_000_000L);
        for (int start = 1; start <= 255; start++) {
            RumourSource x = Check.loaded("0>1*3+2;1>2*10+1;0>2*4+3;3>1*0+1;2>4*5+1;4=4;5=-");
            long sum = 0;
            for (int outcome = 0; outcome < 32; outcome++) {
                sum += x.fits(start, outcome) * x.weight(outcome);
            }
            check.due("likelihood(" + start + ")", x.likelihood(start), sum);
        }
        RumourSource y = Check.loaded("0=-");
        check.due("likelihood(1), none fits", y.likelihood(1), 0);
    }

    private static void possible(Check check) {
        RumourSource x = Check.loaded("0>1*0+2;1=2");
        check.due("fits(1, 1), of the weight 0", x.fits(1, 1), 1);
        check.due("likelihood(1)", x.likelihood(1), 0);
        check.due("candidates()", x.candidates(), 0);
        check.due("explanation(1)", x.explanation(1), -1);
        check.due("possible()", x.possible(), 0);
        check.due("decoy(0)", x.decoy(0), -1);
        RumourSource y = Check.loaded("0>1*10+2;1=-");
        check.due("fits(1, 0), of the weight 0", y.fits(1, 0), 1);
        check.due("likelihood(1)", y.likelihood(1), 0);
        check.due("candidates(), 2 to 7", y.candidates(), 6);
        RumourSource z = leastLikely();
        check.due("likelihood(1), the least above 0", z.likelihood(1), 1);
        check.due("candidates()", z.candidates(), 1);
        check.due("candidate(0)", z.candidate(0), 0);
        check.due("belief(0)", z.belief(0), 1000);
        check.due("explanation(1)", z.explanation(1), 127);
        check.due("possible()", z.possible(), 1);
    }

    /** All of twelve edges are certain, and each way that it went is the least likely one. */
    private static RumourSource leastLikely() {
        RumourSource x = new RumourSource();
        for (int node = 1; node < 8; node++) {
            x.addEdge(0, node, 1, node == 1 ? 1 : 5);
            x.observe(node, node == 1 ? 1 : 5);
        }
        for (int node = 2; node < 7; node++) {
            x.addEdge(1, node, 9, 1);
        }
        return x;
    }

    private static void explanation(Check check) {
        RumourSource even = Check.withEdges(12);
        for (int e = 0; e < 12; e++) {
            even.setEdge(e, 5, 1);
        }
        check.due("explanation(1), all are equal", even.explanation(1), 0);
        RumourSource odd = Check.loaded("0>1*6+1;1>2*5+1;2>3*4+1;3>4*10+1;4>5*0+1");
        check.due("explanation(1), the greatest weight", odd.explanation(1), 1 + 8);
        check.due("explanation(128), where no edge matters", odd.explanation(128), 1 + 8);
        RumourSource x = Check.loaded("0>2*4+1;0>1*4+1;2>3*4+1;1>3*4+1;3=2");
        check.due("explanation(1), the lowest of two", x.explanation(1), 1 + 4);
        x.setEdge(1, 5, 1);
        check.due("explanation(1), the likelier of two", x.explanation(1), 2 + 8);
        x.setEdge(3, 0, 1);
        check.due("explanation(1), the other one has the weight 0", x.explanation(1), 1 + 4);
        x.setEdge(2, 0, 1);
        check.due("fits(1, 5)", x.fits(1, 5), 1);
        check.due("explanation(1), all have the weight 0", x.explanation(1), -1);
        check.due("explanation(2), none fits", x.explanation(2), -1);
        check.due("explanation(1) without edges", new RumourSource().explanation(1), 0);
    }

    private static void candidates(Check check) {
        RumourSource x = new RumourSource();
        check.due("candidates(), all nodes", x.candidates(), 8);
        x.observe(0, 0);
        check.due("candidates()", x.candidates(), 1);
        x.observe(1, 0);
        check.due("likelihood(3)", x.likelihood(3), 1);
        check.due("candidates(), only a start of two nodes is possible", x.candidates(), 0);
        check.due("candidate(0)", x.candidate(0), -2);
        check.due("belief(0)", x.belief(0), 0);
    }

    private static void ranks(Check check) {
        RumourSource x = Check.loaded("5>0*4+1;2>0*4+1;7>0*9+1;3>0*1+1;0=1");
        int[] ranked = {7, 2, 5, 3};
        check.due("candidates()", x.candidates(), 4);
        for (int rank = 0; rank < 4; rank++) {
            check.due("candidate(" + rank + ")", x.candidate(rank), ranked[rank]);
        }
        RumourSource y = new RumourSource();
        for (int rank = 0; rank < 8; rank++) {
            check.due("candidate(" + rank + ") of eight equal ones", y.candidate(rank), rank);
        }
        RumourSource z = Check.loaded("7>0*9+1;3>0*8+1;0=1");
        check.due("candidate(0), by a little", z.candidate(0), 7);
    }

    private static void belief(Check check) {
        RumourSource x = Check.loaded("1>0*5+1;2>0*5+1;3>0*5+1;0=1");
        check.due("belief(1), a third", x.belief(1), 333);
        x.setEdge(2, 0, 1);
        check.due("belief(1), a half", x.belief(1), 500);
        x.setEdge(1, 10, 1);
        check.due("belief(1), 1 of 3", x.belief(1), 333);
        check.due("belief(2), 2 of 3", x.belief(2), 666);
        x.setEdge(0, 0, 1);
        check.due("belief(2), the only candidate", x.belief(2), 1000);
        RumourSource y = Check.loaded("0>1*1+1;1>2*1+1;2>3*1+1;4>3*10+3;3=3");
        check.due("candidates()", y.candidates(), 2);
        check.due("belief(0), 1 of 1001", y.belief(0), 0);
        check.due("belief(4), 1000 of 1001", y.belief(4), 999);
        RumourSource z = Check.withEdges(12);
        for (int node = 0; node < 8; node++) {
            check.due("belief(" + node + "), an eighth of 8 * 10^12", z.belief(node), 125);
        }
    }

    private static void decoy(Check check) {
        RumourSource x = Check.loaded("0=0;1=0");
        check.due("candidates()", x.candidates(), 0);
        check.due("decoy(0), which is no candidate", x.decoy(0), 1);
        check.due("decoy(1)", x.decoy(1), 0);
        check.due("decoy(2)", x.decoy(2), -1);
        RumourSource y = Check.loaded("0=0;1=-;2=-;3=-;4=-;5=-;6=-;7=-");
        check.due("candidates()", y.candidates(), 1);
        check.due("decoy(0), another one than itself", y.decoy(0), -1);
        check.due("decoy(7)", y.decoy(7), -1);
        RumourSource z = Check.loaded("0>1*0+2;1=2;2=-;3=-;4=-;5=-;6=-;7=-");
        check.due("decoy(0), only by the weight 0", z.decoy(0), -1);
    }

    private static void bestDecoy(Check check) {
        RumourSource x = Check.loaded("3>0*5+2;4>0*7+2;5>0*7+2;0=2");
        check.due("decoy(3), the lowest of two", x.decoy(3), 4);
        check.due("decoy(4), the two together", x.decoy(4), 5);
        check.due("decoy(5)", x.decoy(5), 4);
        check.due("decoy(7), no candidate", x.decoy(7), 4);
        x.setEdge(2, 8, 2);
        check.due("decoy(3), the greatest", x.decoy(3), 5);
        RumourSource y = new RumourSource();
        check.due("decoy(0), all are equal", y.decoy(0), 1);
        check.due("decoy(1), all are equal", y.decoy(1), 0);
        // neither 1 nor 2 is a candidate: what counts is the start of both
        RumourSource z = Check.loaded("0>5*10+1;1>6*3+1;2>6*8+1;5=1;6=1");
        check.due("candidates()", z.candidates(), 0);
        check.due("decoy(0), the likelier one with 0", z.decoy(0), 2);
    }

    // ---- simulation

    private static int next(int x) {
        return (int) ((x * 1103515245L + 12345L) & 0xFFFFFFFFL);
    }

    private static long draw(int x) {
        return ((x & 0xFFFFFFFFL) / 256) % 10;
    }

    private static void draws(Check check) {
        int[] seeds = {0, 1, -1, 2, 3, 1 << 30, -12345, 987654321, Integer.MIN_VALUE, Integer.MAX_VALUE};
        boolean wrapped = false;
        for (int seed : seeds) {
            // five edges that lead to the start alone, and seven that tell what the others drew
            RumourSource x = new RumourSource();
            int drawn = seed;
            for (int e = 0; e < 12; e++) {
                int other = e < 5 ? e + 1 : e - 4;
                drawn = next(drawn);
                wrapped |= drawn < 0;
                // at the trust that it draws it doesn't work, at one more it does
                int trust = (int) draw(drawn) + e % 2;
                x.addEdge(e < 5 ? other : 0, e < 5 ? 0 : other, trust, 1);
            }
            check.due("simulate(1, " + seed + ")", x.simulate(1, seed), 5);
            for (int e = 5; e < 12; e++) {
                check.due("observed(" + (e - 4) + ")", x.observed(e - 4), e % 2 == 1 ? 1 : -1);
            }
        }
        check.holds("some x is below 0", wrapped);
        RumourSource y = Check.loaded("0>1*0+1;0>2*10+1");
        for (int seed = -100; seed < 100; seed++) {
            check.due("simulate(1, " + seed + "), never and always", y.simulate(1, seed), 2);
            check.due("observed(1)", y.observed(1), -1);
        }
    }

    private static void sensors(Check check) {
        RumourSource x = new RumourSource();
        check.due("setSensors(255), at first", x.setSensors(255), 255);
        check.due("setSensors(0)", x.setSensors(0), 255);
        check.due("setSensors(1)", x.setSensors(1), 0);
        for (int node = 0; node < 8; node++) {
            x.setSensors(1 << node);
            x.simulate(1, 0);
            for (int other = 0; other < 8; other++) {
                int seen = other != node ? 100 : node == 0 ? 0 : -1;
                check.due("observed(" + other + "), the sensor " + node, x.observed(other), seen);
            }
        }
        RumourSource y = new RumourSource();
        y.simulate(254, 0);
        for (int node = 0; node < 8; node++) {
            check.due("observed(" + node + "), all are sensors", y.observed(node), node == 0 ? -1 : 0);
        }
    }

    private static void observedBySensors(Check check) {
        for (String before : new String[] {"1=7;2=7;3=7;4=7", "1=-;2=-;3=-;4=-", "0=1"}) {
            RumourSource x = Check.loaded("0>1*10+2;0>2*10+3;" + before);
            x.setSensors(2 + 8);
            check.due("simulate(1, 0)", x.simulate(1, 0), 3);
            int[] seen = {100, 2, 100, -1, 100, 100, 100, 100};
            for (int node = 0; node < 8; node++) {
                check.due("observed(" + node + ")", x.observed(node), seen[node]);
            }
            x.setSensors(0);
            check.due("simulate(1, 0)", x.simulate(1, 0), 3);
            check.due("observed(1), no sensors", x.observed(1), 100);
            check.due("observed(3), no sensors", x.observed(3), 100);
        }
        RumourSource y = Check.loaded("0>1*10+5;1>2*10+1");
        y.setHorizon(5);
        check.due("simulate(1, 0)", y.simulate(1, 0), 2);
        check.due("observed(1), at the horizon", y.observed(1), 5);
        check.due("observed(2), beyond the horizon", y.observed(2), -1);
    }
}
