import java.math.BigInteger;

/** The sentences of promises 9 to 13: observations, sensors, the simulation. */
final class ObservationSentences {
    static void all(Sentences s) {
        observe(s);
        forget(s);
        observed(s);
        setSensors(s);
        simulate(s);
    }

    private static void observe(Sentences s) {
        s.section("Promise 9: observe");
        observes(s.test("Observes a node."));
        observeRecorded(s.test("Recorded."));
        observeNode(s.test("`node`: 0 to 7"));
        observeTime(s.test("`time`: the time at which it heard the rumour, 0 to 30, or NONE if it never"
            + " hears it"));
        observeBefore(s.test("Returns what it was before: a time, NONE if it was observed as never"
            + " hearing the rumour, 100 if it was unobserved;"));
        observeNoNode(s.test("BAD_INDEX if there is no such node;"));
        observeBadTime(s.test("BAD_VALUE if time is out of range."));
    }

    private static void forget(Sentences s) {
        s.section("Promise 10: forget");
        forgets(s.test("Makes a node unobserved."));
        forgetRecorded(s.test("Recorded."));
        forgetNode(s.test("`node`: 0 to 7"));
        forgetBefore(s.test("Returns what it was before, as for observe();"));
        forgetNoNode(s.test("BAD_INDEX if there is no such node."));
    }

    private static void observed(Sentences s) {
        s.section("Promise 11: observed");
        s.plain("Tells how a node is observed.");
        observedNode(s.test("`node`: 0 to 7"));
        observedHow(s.test("Returns as for observe();"));
        observedNoNode(s.test("BAD_INDEX if there is no such node."));
    }

    private static void setSensors(Sentences s) {
        s.section("Promise 12: setSensors");
        sensorsSet(s.test("Sets the sensors."));
        sensorsRecorded(s.test("Recorded."));
        sensorsRange(s.test("`sensors`: a mask, 0 to 255"));
        sensorsPrevious(s.test("Returns the previous mask;"));
        sensorsBad(s.test("BAD_VALUE if sensors is out of range."));
    }

    private static void simulate(Sentences s) {
        s.section("Promise 13: simulate");
        simulates(s.test("Simulates a rumour."));
        simulateRecorded(s.test("Recorded."));
        simulateStart(s.test("`start`: the mask of a start, 1 to 255"));
        simulateX(s.test("`x`: the int x, any one"));
        simulateHeard(s.test("Returns how many of the 8 nodes hear the rumour;"));
        simulateBad(s.test("BAD_VALUE if start is out of range."));
    }

    // ---- observe

    private static void observes(Check check) {
        RumourSource x = new RumourSource();
        x.observe(2, 7);
        for (int node = 0; node < 8; node++) {
            check.due("observed(" + node + ")", x.observed(node), node == 2 ? 7 : 100);
        }
        x.observe(2, -1);
        check.due("observed(2)", x.observed(2), -1);
        check.due("likelihood(4), 2 never hears", x.likelihood(4), 0);
        x.observe(2, 0);
        check.due("likelihood(4), 2 hears at 0", x.likelihood(4), 1);
        check.due("likelihood(2)", x.likelihood(2), 0);
    }

    private static void observeRecorded(Check check) {
        RumourSource x = new RumourSource();
        x.observe(2, 7);
        x.observe(2, 7);
        x.observe(2, -1);
        x.observe(2, 5);
        check.due("undo(), of the call that answered NONE", x.undo(), 3);
        check.due("observed(2)", x.observed(2), -1);
        check.due("undo()", x.undo(), 2);
        check.due("undo(), of the call that changes nothing", x.undo(), 1);
        check.due("observed(2)", x.observed(2), 7);
        check.due("undo()", x.undo(), 0);
        check.due("observed(2)", x.observed(2), 100);
    }

    private static void observeNode(Check check) {
        RumourSource x = new RumourSource();
        for (int node = 0; node < 8; node++) {
            check.due("observe(" + node + ", ..)", x.observe(node, node + 1), 100);
        }
        for (int node = 0; node < 8; node++) {
            check.due("observed(" + node + ")", x.observed(node), node + 1);
        }
        check.due("observe(8, 1)", x.observe(8, 1), -2);
        check.due("observe(-1, 1)", x.observe(-1, 1), -2);
    }

    private static void observeTime(Check check) {
        RumourSource x = new RumourSource();
        int before = 100;
        for (int time = -1; time <= 30; time++) {
            check.due("observe(4, " + time + ")", x.observe(4, time), before);
            check.due("observed(4)", x.observed(4), time);
            before = time;
        }
        check.due("observe(4, 31)", x.observe(4, 31), -3);
        check.due("observe(4, -2)", x.observe(4, -2), -3);
        // the horizon is no bound for what is observed
        x.setHorizon(0);
        check.due("observe(4, 30)", x.observe(4, 30), 30);
        check.due("observed(4)", x.observed(4), 30);
    }

    private static void observeBefore(Check check) {
        RumourSource x = new RumourSource();
        int[] times = {0, 30, -1, -1, 0, 12};
        int before = 100;
        for (int time : times) {
            check.due("observe(7, " + time + ")", x.observe(7, time), before);
            before = time;
        }
        x.forget(7);
        check.due("observe(7, 1), unobserved again", x.observe(7, 1), 100);
    }

    private static void observeNoNode(Check check) {
        RumourSource x = new RumourSource();
        for (int bad : Check.beyond(0, 7)) {
            check.due("observe(" + bad + ", 0)", x.observe(bad, 0), -2);
            check.due("observe(" + bad + ", -1)", x.observe(bad, -1), -2);
            check.due("observe(" + bad + ", 31)", x.observe(bad, 31), -2);
        }
        check.due("candidates(), nothing is observed", x.candidates(), 8);
    }

    private static void observeBadTime(Check check) {
        RumourSource x = Check.loaded("3=9");
        for (int bad : new int[] {-2, 31, 100, Integer.MIN_VALUE, Integer.MAX_VALUE}) {
            check.due("observe(3, " + bad + ")", x.observe(3, bad), -3);
        }
        check.due("observed(3)", x.observed(3), 9);
        check.due("undo(), only of the load", x.undo(), 0);
    }

    // ---- forget, observed

    private static void forgets(Check check) {
        RumourSource x = Check.loaded("1=-;2=9;3=0");
        x.forget(1);
        check.due("observed(1)", x.observed(1), 100);
        check.due("observed(2), another node", x.observed(2), 9);
        x.forget(2);
        check.due("observed(2)", x.observed(2), 100);
        check.due("candidates(), by 3 alone", x.candidates(), 1);
        x.forget(3);
        check.due("candidates()", x.candidates(), 8);
    }

    private static void forgetRecorded(Check check) {
        RumourSource x = Check.loaded("1=-;2=9");
        x.forget(1);
        x.forget(1);
        check.due("undo(), of the call that changes nothing", x.undo(), 2);
        check.due("observed(1)", x.observed(1), 100);
        check.due("undo(), of the call that answered NONE", x.undo(), 1);
        check.due("observed(1)", x.observed(1), -1);
    }

    private static void forgetNode(Check check) {
        RumourSource x = Check.loaded("0=1;1=2;2=3;3=4;4=5;5=6;6=7;7=8");
        for (int node = 0; node < 8; node++) {
            check.due("forget(" + node + ")", x.forget(node), node + 1);
            check.due("observed(" + node + ")", x.observed(node), 100);
        }
        check.due("forget(8)", x.forget(8), -2);
        check.due("forget(-1)", x.forget(-1), -2);
    }

    private static void forgetBefore(Check check) {
        RumourSource x = Check.loaded("1=-;2=0;3=30");
        int[] before = {100, -1, 0, 30};
        for (int node = 0; node < 4; node++) {
            check.due("forget(" + node + ")", x.forget(node), before[node]);
            check.due("forget(" + node + ") again", x.forget(node), 100);
        }
    }

    private static void forgetNoNode(Check check) {
        RumourSource x = Check.loaded("0=1;7=1");
        for (int bad : Check.beyond(0, 7)) {
            check.due("forget(" + bad + ")", x.forget(bad), -2);
        }
        check.due("observed(0)", x.observed(0), 1);
        check.due("observed(7)", x.observed(7), 1);
        check.due("undo(), only of the load", x.undo(), 0);
    }

    private static void observedNode(Check check) {
        RumourSource x = Check.loaded("0=1;1=2;2=3;3=4;4=5;5=6;6=7;7=8");
        for (int node = 0; node < 8; node++) {
            check.due("observed(" + node + ")", x.observed(node), node + 1);
        }
        check.due("observed(8)", x.observed(8), -2);
        check.due("observed(-1)", x.observed(-1), -2);
    }

    private static void observedHow(Check check) {
        RumourSource x = Check.loaded("1=-;2=0;3=30");
        int[] how = {100, -1, 0, 30};
        for (int node = 0; node < 4; node++) {
            check.due("observed(" + node + ")", x.observed(node), how[node]);
            check.due("observed(" + node + ") again", x.observed(node), how[node]);
        }
        check.due("undo(), it is not recorded", x.undo(), 0);
    }

    private static void observedNoNode(Check check) {
        RumourSource x = Check.loaded("0=1;7=1");
        for (int bad : Check.beyond(0, 7)) {
            check.due("observed(" + bad + ")", x.observed(bad), -2);
        }
    }

    // ---- setSensors

    private static void sensorsSet(Check check) {
        for (int sensors = 0; sensors <= 255; sensors++) {
            RumourSource x = new RumourSource();
            x.setSensors(sensors);
            x.simulate(1, 0);
            for (int node = 0; node < 8; node++) {
                int seen = (sensors >> node & 1) == 0 ? 100 : node == 0 ? 0 : -1;
                check.due("observed(" + node + ") by " + sensors, x.observed(node), seen);
            }
        }
        RumourSource y = Check.loaded("1=-;2=0;3=30");
        y.setSensors(0);
        check.due("observed(2), before a rumour is simulated", y.observed(2), 0);
        check.due("observed(3), before a rumour is simulated", y.observed(3), 30);
    }

    private static void sensorsRecorded(Check check) {
        RumourSource x = new RumourSource();
        x.setSensors(255);
        x.setSensors(1);
        check.due("undo()", x.undo(), 1);
        check.due("undo(), of the call that changes nothing", x.undo(), 0);
        check.due("setSensors(7)", x.setSensors(7), 255);
    }

    private static void sensorsRange(Check check) {
        RumourSource x = new RumourSource();
        int before = 255;
        for (int sensors = 0; sensors <= 255; sensors++) {
            check.due("setSensors(" + sensors + ")", x.setSensors(sensors), before);
            before = sensors;
        }
        check.due("setSensors(256)", x.setSensors(256), -3);
        check.due("setSensors(-1)", x.setSensors(-1), -3);
    }

    private static void sensorsPrevious(Check check) {
        RumourSource x = new RumourSource();
        check.due("setSensors(0), all at first", x.setSensors(0), 255);
        check.due("setSensors(0)", x.setSensors(0), 0);
        check.due("setSensors(128)", x.setSensors(128), 0);
        check.due("setSensors(255)", x.setSensors(255), 128);
    }

    private static void sensorsBad(Check check) {
        RumourSource x = new RumourSource();
        for (int bad : Check.beyond(0, 255)) {
            check.due("setSensors(" + bad + ")", x.setSensors(bad), -3);
        }
        check.due("undo(), none is recorded", x.undo(), -4);
        check.due("setSensors(1)", x.setSensors(1), 255);
    }

    // ---- simulate

    private static void simulates(Check check) {
        // with the trusts 10 and 0 it is known what each x does
        RumourSource x = Check.loaded("0>1*10+2;1>2*10+3;2>3*0+1;4>5*10+5;6=6;7=-");
        check.due("simulate(17, 8)", x.simulate(17, 8), 5);
        int[] seen = {0, 2, 5, -1, 0, 5, -1, -1};
        for (int node = 0; node < 8; node++) {
            check.due("observed(" + node + ")", x.observed(node), seen[node]);
        }
        check.due("likelihood(17), of what was simulated", x.likelihood(17), 10_000);
        check.due("edges(), which are left", x.edges(), 4);
        x.setHorizon(4);
        check.due("simulate(1, 8)", x.simulate(1, 8), 2);
        check.due("observed(2), beyond the horizon", x.observed(2), -1);
        check.due("observed(4), not in this start", x.observed(4), -1);
    }

    private static void simulateRecorded(Check check) {
        RumourSource x = Check.loaded("0>1*10+2;3=3;4=-");
        long before = x.digest();
        x.simulate(1, 1);
        x.simulate(1, 1);
        check.due("undo(), of the call that changes nothing", x.undo(), 2);
        check.due("observed(1)", x.observed(1), 2);
        check.due("undo()", x.undo(), 1);
        check.due("digest()", x.digest(), before);
        check.due("observed(3)", x.observed(3), 3);
    }

    private static void simulateStart(Check check) {
        RumourSource x = new RumourSource();
        for (int start = 1; start <= 255; start++) {
            check.due("simulate(" + start + ", 3)", x.simulate(start, 3), Integer.bitCount(start));
            check.due("observed(5)", x.observed(5), start / 32 % 2 == 1 ? 0 : -1);
        }
        check.due("simulate(0, 3)", x.simulate(0, 3), -3);
        check.due("simulate(256, 3)", x.simulate(256, 3), -3);
    }

    /** Which of seven edges of the trust 5 work is found here in numbers that can't overflow. */
    private static void simulateX(Check check) {
        int[] given = {0, 1, -1, 7, -1000, 65536, Integer.MIN_VALUE, Integer.MAX_VALUE};
        for (int x : given) {
            RumourSource source = new RumourSource();
            for (int node = 1; node < 8; node++) {
                source.addEdge(0, node, 5, node % 5 + 1);
            }
            int heard = 1;
            int[] seen = new int[8];
            BigInteger drawn = BigInteger.valueOf(x);
            for (int node = 1; node < 8; node++) {
                drawn = drawn.multiply(BigInteger.valueOf(1103515245))
                    .add(BigInteger.valueOf(12345))
                    .mod(BigInteger.ONE.shiftLeft(32));
                boolean works = drawn.shiftRight(8).intValue() % 10 < 5;
                seen[node] = works ? node % 5 + 1 : -1;
                heard += works ? 1 : 0;
            }
            check.due("simulate(1, " + x + ")", source.simulate(1, x), heard);
            for (int node = 0; node < 8; node++) {
                check.due("observed(" + node + ") by " + x, source.observed(node), seen[node]);
            }
        }
    }

    private static void simulateHeard(Check check) {
        RumourSource x = Check.loaded("0>1*10+5;1>2*10+5;2>3*10+5;3>4*10+5;4>5*10+5;5>6*0+1;7>0*10+1");
        check.due("simulate(1, 1), up to the horizon", x.simulate(1, 1), 5);
        check.due("simulate(255, 1), all", x.simulate(255, 1), 8);
        check.due("simulate(64, 1), the start alone", x.simulate(64, 1), 1);
        check.due("simulate(128, 1)", x.simulate(128, 1), 5);
        x.setSensors(0);
        check.due("simulate(255, 1), sensors or not", x.simulate(255, 1), 8);
        x.setSensors(2);
        check.due("simulate(1, 1), sensors or not", x.simulate(1, 1), 5);
    }

    private static void simulateBad(Check check) {
        RumourSource x = Check.loaded("3=3;4=-");
        for (int bad : new int[] {0, -1, 256, Integer.MIN_VALUE, Integer.MAX_VALUE}) {
            check.due("simulate(" + bad + ", 1)", x.simulate(bad, 1), -3);
        }
        check.due("observed(3)", x.observed(3), 3);
        check.due("observed(0)", x.observed(0), 100);
        check.due("undo(), only of the load", x.undo(), 0);
    }
}
