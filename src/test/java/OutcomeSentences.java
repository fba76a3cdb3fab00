/** The sentences of promises 14 to 18: times and weights by outcomes. */
final class OutcomeSentences {
    /** Two ways from 0 to 2, a way around, edges that never and that always work. */
    private static final String EDGES = "0>1*3+2;1>2*10+1;0>2*4+3;3>1*0+1;2>0*5+1";

    static void all(Sentences s) {
        timeBy(s);
        weight(s);
        fits(s);
        timeWeight(s);
        reach(s);
    }

    private static void timeBy(Sentences s) {
        s.section("Promise 14: timeBy");
        s.plain("Returns when a node hears the rumour by an outcome.");
        timeStart(s.test("`start`: the mask of a start, 1 to 255"));
        timeOutcome(s.test("`outcome`: a mask of edges, 0 to 2^E - 1"));
        timeNode(s.test("`node`: 0 to 7"));
        timeOrNone(s.test("Returns the time; NONE if it never hears it;"));
        timeNoNode(s.test("BAD_INDEX if there is no such node;"));
        timeBad(s.test("BAD_VALUE if start or outcome is out of range."));
    }

    private static void weight(Sentences s) {
        s.section("Promise 15: weight");
        s.plain("Returns the weight of an outcome.");
        weightOutcome(s.test("`outcome`: a mask of edges, 0 to 2^E - 1"));
        weightIs(s.test("Returns the weight;"));
        weightBad(s.test("BAD_VALUE if outcome is out of range."));
    }

    private static void fits(Sentences s) {
        s.section("Promise 16: fits");
        s.plain("Tells whether an outcome fits the observations.");
        fitsStart(s.test("`start`: the mask of a start, 1 to 255"));
        fitsOutcome(s.test("`outcome`: a mask of edges, 0 to 2^E - 1"));
        fitsOrNot(s.test("Returns 1 if it fits, else 0;"));
        fitsBad(s.test("BAD_VALUE if start or outcome is out of range."));
    }

    private static void timeWeight(Sentences s) {
        s.section("Promise 17: timeWeight");
        sumOfTime(s.test("Returns the sum of the weights of all outcomes by which a node hears the"
            + " rumour at a time (whatever is observed)."));
        sumStart(s.test("`start`: the mask of a start, 1 to 255"));
        sumNode(s.test("`node`: 0 to 7"));
        sumTime(s.test("`time`: 0 to 30, or NONE for never"));
        sumGreatest(s.test("Returns the sum;"));
        sumNoNode(s.test("BAD_INDEX if there is no such node;"));
        sumBad(s.test("BAD_VALUE if start or time is out of range."));
    }

    private static void reach(Sentences s) {
        s.section("Promise 18: reach");
        reachSum(s.test("Returns the sum, over all outcomes, of the weight times the number of nodes that"
            + " hear the rumour (whatever is observed)."));
        reachStart(s.test("`start`: the mask of a start, 1 to 255"));
        reachGreatest(s.test("Returns the sum;"));
        reachBad(s.test("BAD_VALUE if start is out of range."));
    }

    // ---- timeBy

    private static void timeStart(Check check) {
        RumourSource x = Check.loaded("0>7*5+3");
        for (int start = 1; start <= 255; start++) {
            int due = start >= 128 ? 0 : start % 2 == 1 ? 3 : -1;
            check.due("timeBy(" + start + ", 1, 7)", x.timeBy(start, 1, 7), due);
        }
        check.due("timeBy(0, 1, 7)", x.timeBy(0, 1, 7), -3);
        check.due("timeBy(256, 1, 7)", x.timeBy(256, 1, 7), -3);
    }

    private static void timeOutcome(Check check) {
        for (int edges = 0; edges <= 12; edges++) {
            RumourSource x = Check.withEdges(edges);
            int last = (1 << edges) - 1;
            check.due("timeBy(1, 0, 1)", x.timeBy(1, 0, 1), -1);
            check.due("timeBy(1, " + last + ", 1)", x.timeBy(1, last, 1), edges > 0 ? 1 : -1);
            check.due("timeBy(1, " + (last + 1) + ", 1)", x.timeBy(1, last + 1, 1), -3);
            check.due("timeBy(1, -1, 1)", x.timeBy(1, -1, 1), -3);
        }
    }

    private static void timeNode(Check check) {
        RumourSource x = Check.withEdges(7);
        int time = 0;
        for (int node = 0; node < 8; node++) {
            check.due("timeBy(1, 127, " + node + ")", x.timeBy(1, 127, node), time);
            time += node % 5 + 1;
        }
        check.due("timeBy(1, 127, 8)", x.timeBy(1, 127, 8), -2);
        check.due("timeBy(1, 127, -1)", x.timeBy(1, 127, -1), -2);
    }

    private static void timeOrNone(Check check) {
        RumourSource x = Check.loaded("0>1*0+5;1>2*10+5;2>0*5+1");
        x.setHorizon(10);
        check.due("timeBy(1, 7, 0)", x.timeBy(1, 7, 0), 0);
        check.due("timeBy(1, 7, 1), whatever the trust", x.timeBy(1, 7, 1), 5);
        check.due("timeBy(1, 7, 2), at the horizon", x.timeBy(1, 7, 2), 10);
        check.due("timeBy(2, 7, 0)", x.timeBy(2, 7, 0), 6);
        check.due("timeBy(1, 5, 2), the way is broken", x.timeBy(1, 5, 2), -1);
        check.due("timeBy(1, 7, 7)", x.timeBy(1, 7, 7), -1);
        x.setHorizon(9);
        check.due("timeBy(1, 7, 2), beyond the horizon", x.timeBy(1, 7, 2), -1);
        x.observe(1, 3);
        x.observe(2, 3);
        check.due("timeBy(1, 7, 1), whatever is observed", x.timeBy(1, 7, 1), 5);
    }

    private static void timeNoNode(Check check) {
        RumourSource x = Check.withEdges(3);
        for (int bad : Check.beyond(0, 7)) {
            check.due("timeBy(1, 0, " + bad + ")", x.timeBy(1, 0, bad), -2);
            check.due("timeBy(0, 8, " + bad + ")", x.timeBy(0, 8, bad), -2);
        }
    }

    private static void timeBad(Check check) {
        RumourSource x = Check.withEdges(3);
        for (int bad : Check.beyond(1, 255)) {
            check.due("timeBy(" + bad + ", 0, 0)", x.timeBy(bad, 0, 0), -3);
        }
        for (int bad : Check.beyond(0, 7)) {
            check.due("timeBy(1, " + bad + ", 0)", x.timeBy(1, bad, 0), -3);
        }
    }

    // ---- weight

    private static void weightOutcome(Check check) {
        for (int edges = 0; edges <= 12; edges++) {
            RumourSource x = new RumourSource();
            for (int e = 0; e < edges; e++) {
                x.addEdge(Check.from(e), Check.to(e), 5, 1);
            }
            long due = 1;
            for (int e = 0; e < edges; e++) {
                due *= 5;
            }
            int last = (1 << edges) - 1;
            check.due("weight(0)", x.weight(0), due);
            check.due("weight(" + last + ")", x.weight(last), due);
            check.due("weight(" + (last + 1) + ")", x.weight(last + 1), -3);
            check.due("weight(-1)", x.weight(-1), -3);
        }
    }

    private static void weightIs(Check check) {
        RumourSource x = Check.loaded("0>1*1+1;1>2*3+1;2>3*10+1");
        long[] due = {0, 0, 0, 0, 9 * 7 * 10, 1 * 7 * 10, 9 * 3 * 10, 1 * 3 * 10};
        for (int outcome = 0; outcome < 8; outcome++) {
            check.due("weight(" + outcome + ")", x.weight(outcome), due[outcome]);
        }
        RumourSource none = Check.withEdges(12);
        for (int e = 0; e < 12; e++) {
            none.setEdge(e, 0, 1);
        }
        check.due("weight(0), the greatest, above an int", none.weight(0), 1_000_000_000_000L);
    }

    private static void weightBad(Check check) {
        for (int bad : Check.beyond(0, 0)) {
            check.due("weight(" + bad + ") without edges", new RumourSource().weight(bad), -3);
        }
        RumourSource x = Check.withEdges(12);
        for (int bad : Check.beyond(0, 4095)) {
            check.due("weight(" + bad + ")", x.weight(bad), -3);
        }
        x.removeEdge(0);
        check.due("weight(2048), with one edge less", x.weight(2048), -3);
    }

    // ---- fits

    private static void fitsStart(Check check) {
        RumourSource x = Check.loaded("7=0");
        for (int start = 1; start <= 255; start++) {
            check.due("fits(" + start + ", 0)", x.fits(start, 0), start >= 128 ? 1 : 0);
        }
        check.due("fits(0, 0)", x.fits(0, 0), -3);
        check.due("fits(256, 0)", x.fits(256, 0), -3);
    }

    private static void fitsOutcome(Check check) {
        for (int edges = 0; edges <= 12; edges++) {
            RumourSource x = Check.withEdges(edges);
            x.observe(1, 1);
            int last = (1 << edges) - 1;
            check.due("fits(1, 0)", x.fits(1, 0), 0);
            check.due("fits(1, " + last + ")", x.fits(1, last), edges > 0 ? 1 : 0);
            check.due("fits(1, " + (last + 1) + ")", x.fits(1, last + 1), -3);
            check.due("fits(1, -1)", x.fits(1, -1), -3);
        }
    }

    private static void fitsOrNot(Check check) {
        check.due("fits(1, 0), nothing is there", new RumourSource().fits(1, 0), 1);
        RumourSource x = Check.loaded("0>1*0+2;1>2*10+3");
        check.due("fits(1, 1), nothing is observed", x.fits(1, 1), 1);
        x.observe(1, 2);
        check.due("fits(1, 1), though of the weight 0", x.fits(1, 1), 1);
        check.due("fits(1, 2)", x.fits(1, 2), 0);
        check.due("fits(3, 3), too early", x.fits(3, 3), 0);
        x.observe(1, 1);
        check.due("fits(1, 1), too late", x.fits(1, 1), 0);
        x.observe(1, -1);
        check.due("fits(1, 1), it does hear", x.fits(1, 1), 0);
        check.due("fits(1, 2), it never hears", x.fits(1, 2), 1);
        x.setHorizon(1);
        check.due("fits(1, 1), it hears beyond the horizon", x.fits(1, 1), 1);
    }

    private static void fitsBad(Check check) {
        RumourSource x = Check.withEdges(3);
        for (int bad : Check.beyond(1, 255)) {
            check.due("fits(" + bad + ", 0)", x.fits(bad, 0), -3);
        }
        for (int bad : Check.beyond(0, 7)) {
            check.due("fits(1, " + bad + ")", x.fits(1, bad), -3);
        }
        x.observe(0, -1);
        check.due("fits(1, 8), where none fits", x.fits(1, 8), -3);
    }

    // ---- timeWeight

    /** The sum as it is told, over all outcomes: for each of the times, and for never. */
    private static long[] sums(int start, int node, int horizon) {
        RumourSource x = Check.loaded(EDGES);
        x.setHorizon(horizon);
        long[] sums = new long[32];
        for (int outcome = 0; outcome < 32; outcome++) {
            sums[x.timeBy(start, outcome, node) + 1] += x.weight(outcome);
        }
        return sums;
    }

    private static void sumOfTime(Check check) {
        for (int start = 1; start < 16; start++) {
            for (int node = 0; node < 4; node++) {
                for (int horizon : new int[] {2, 20}) {
                    long[] due = sums(start, node, horizon);
                    RumourSource x = Check.loaded(EDGES);
                    x.setHorizon(horizon);
                    for (int time = -1; time <= 30; time++) {
                        check.due("timeWeight(" + start + ", " + node + ", " + time + ")",
                            x.timeWeight(start, node, time), due[time + 1]);
                    }
                    x.observe(node, 17);
                    x.observe(0, -1);
                    check.due("timeWeight(" + start + ", " + node + ", -1), whatever is observed",
                        x.timeWeight(start, node, -1), due[0]);
                }
            }
        }
    }

    private static void sumStart(Check check) {
        RumourSource x = Check.loaded("0>7*4+3");
        for (int start = 1; start <= 255; start++) {
            boolean inStart = start >= 128;
            boolean byEdge = start % 2 == 1 && !inStart;
            check.due("timeWeight(" + start + ", 7, 3)", x.timeWeight(start, 7, 3), byEdge ? 4 : 0);
        }
        check.due("timeWeight(0, 7, 3)", x.timeWeight(0, 7, 3), -3);
        check.due("timeWeight(256, 7, 3)", x.timeWeight(256, 7, 3), -3);
        check.due("timeWeight(255, 7, 0)", x.timeWeight(255, 7, 0), 10);
    }

    private static void sumNode(Check check) {
        RumourSource x = new RumourSource();
        for (int node = 1; node < 8; node++) {
            x.addEdge(0, node, node, 1);
        }
        for (int node = 0; node < 8; node++) {
            long due = node == 0 ? 0 : 1_000_000L * node;
            check.due("timeWeight(1, " + node + ", 1)", x.timeWeight(1, node, 1), due);
        }
        check.due("timeWeight(1, 8, 1)", x.timeWeight(1, 8, 1), -2);
        check.due("timeWeight(1, -1, 1)", x.timeWeight(1, -1, 1), -2);
    }

    private static void sumTime(Check check) {
        RumourSource x = Check.loaded("0>1*9+5;1>2*9+5;2>3*9+5;3>4*9+5;4>5*9+5;5>6*9+5;6>7*9+1");
        x.setHorizon(30);
        check.due("timeWeight(1, 0, 0)", x.timeWeight(1, 0, 0), 10_000_000);
        check.due("timeWeight(1, 6, 30)", x.timeWeight(1, 6, 30), 531441L * 10);
        check.due("timeWeight(1, 6, -1)", x.timeWeight(1, 6, -1), 10_000_000 - 531441L * 10);
        check.due("timeWeight(1, 6, 29)", x.timeWeight(1, 6, 29), 0);
        check.due("timeWeight(1, 7, -1), beyond all times", x.timeWeight(1, 7, -1), 10_000_000);
        check.due("timeWeight(1, 7, 31)", x.timeWeight(1, 7, 31), -3);
        check.due("timeWeight(1, 7, -2)", x.timeWeight(1, 7, -2), -3);
        x.setHorizon(29);
        check.due("timeWeight(1, 6, 30), a time beyond the horizon", x.timeWeight(1, 6, 30), 0);
        check.due("timeWeight(1, 6, -1)", x.timeWeight(1, 6, -1), 10_000_000);
    }

    private static void sumGreatest(Check check) {
        RumourSource x = Check.withEdges(12);
        check.due("timeWeight(1, 0, 0), all outcomes", x.timeWeight(1, 0, 0), 1_000_000_000_000L);
        check.due("timeWeight(1, 0, -1), none", x.timeWeight(1, 0, -1), 0);
        check.due("timeWeight(1, 0, 0) without edges", new RumourSource().timeWeight(1, 0, 0), 1);
        check.due("timeWeight(1, 1, -1) without edges", new RumourSource().timeWeight(1, 1, -1), 1);
        check.due("timeWeight(1, 1, 0) without edges", new RumourSource().timeWeight(1, 1, 0), 0);
        long sum = x.timeWeight(2, 6, -1);
        for (int time = 0; time <= 30; time++) {
            sum += x.timeWeight(2, 6, time);
        }
        check.due("the sum for all times", sum, 1_000_000_000_000L);
    }

    private static void sumNoNode(Check check) {
        RumourSource x = Check.withEdges(3);
        for (int bad : Check.beyond(0, 7)) {
            check.due("timeWeight(1, " + bad + ", 0)", x.timeWeight(1, bad, 0), -2);
            check.due("timeWeight(0, " + bad + ", 31)", x.timeWeight(0, bad, 31), -2);
        }
    }

    private static void sumBad(Check check) {
        RumourSource x = Check.withEdges(3);
        for (int bad : Check.beyond(1, 255)) {
            check.due("timeWeight(" + bad + ", 0, 0)", x.timeWeight(bad, 0, 0), -3);
        }
        for (int bad : new int[] {-2, 31, 100, Integer.MIN_VALUE, Integer.MAX_VALUE}) {
            check.due("timeWeight(1, 0, " + bad + ")", x.timeWeight(1, 0, bad), -3);
        }
    }

    // ---- reach

    private static void reachSum(Check check) {
        for (int start = 1; start < 16; start++) {
            for (int horizon : new int[] {0, 2, 20}) {
                RumourSource x = Check.loaded(EDGES);
                x.setHorizon(horizon);
                long due = 0;
                for (int outcome = 0; outcome < 32; outcome++) {
                    long weight = x.weight(outcome);
                    for (int node = 0; node < 8; node++) {
                        due += x.timeBy(start, outcome, node) >= 0 ? weight : 0;
                    }
                }
                check.due("reach(" + start + ") by " + horizon, x.reach(start), due);
                x.observe(0, -1);
                x.observe(1, 30);
                check.due("reach(" + start + "), whatever is observed", x.reach(start), due);
            }
        }
    }

    private static void reachStart(Check check) {
        RumourSource x = new RumourSource();
        for (int start = 1; start <= 255; start++) {
            check.due("reach(" + start + ")", x.reach(start), Integer.bitCount(start));
        }
        check.due("reach(0)", x.reach(0), -3);
        check.due("reach(256)", x.reach(256), -3);
    }

    private static void reachGreatest(Check check) {
        RumourSource x = Check.withEdges(12);
        check.due("reach(255), all by all outcomes", x.reach(255), 8_000_000_000_000L);
        for (int e = 0; e < 12; e++) {
            x.setEdge(e, 10, 1);
        }
        check.due("reach(1), all by the one outcome", x.reach(1), 8_000_000_000_000L);
        for (int e = 0; e < 12; e++) {
            x.setEdge(e, 0, 1);
        }
        check.due("reach(1), the start alone", x.reach(1), 1_000_000_000_000L);
    }

    private static void reachBad(Check check) {
        RumourSource x = Check.withEdges(3);
        for (int bad : Check.beyond(1, 255)) {
            check.due("reach(" + bad + ")", x.reach(bad), -3);
        }
    }
}
