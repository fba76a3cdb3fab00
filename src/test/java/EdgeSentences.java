/** The sentences of promises 2 to 8: edges and the horizon. */
final class EdgeSentences {
    static void all(Sentences s) {
        addEdge(s);
        setEdge(s);
        removeEdge(s);
        edge(s);
        edgeBetween(s);
        setHorizon(s);
    }

    private static void addEdge(Sentences s) {
        s.section("Promise 2: addEdge");
        adds(s.test("Adds an edge."));
        addRecorded(s.test("Recorded."));
        addFrom(s.test("`from`: a node"));
        addTo(s.test("`to`: another node"));
        addTrust(s.test("`trust`: 0 to 10"));
        addDelay(s.test("`delay`: 1 to 5"));
        addNumber(s.test("Returns the number of the edge;"));
        addNoNode(s.test("BAD_INDEX if there is no such node (either one);"));
        addBadValue(s.test("BAD_VALUE if trust or delay is out of range, or both nodes are the same;"));
        addSuchAnEdge(s.test("BAD_STATE if there is such an edge;"));
        addFull(s.test("FULL if there are 12 edges."));
    }

    private static void setEdge(Sentences s) {
        s.section("Promise 3: setEdge");
        sets(s.test("Sets trust and delay of an edge."));
        setRecorded(s.test("Recorded."));
        setNumber(s.test("`edge`: number of the edge"));
        setTrust(s.test("`trust`: 0 to 10"));
        setDelay(s.test("`delay`: 1 to 5"));
        setPrevious(s.test("Returns the previous trust;"));
        setNoEdge(s.test("BAD_INDEX if there is no such edge;"));
        setBadValue(s.test("BAD_VALUE if trust or delay is out of range."));
    }

    private static void removeEdge(Sentences s) {
        s.section("Promise 4: removeEdge");
        removes(s.test("Removes an edge; the numbers of the following ones decrease by 1."));
        removeRecorded(s.test("Recorded."));
        removeNumber(s.test("`edge`: number of the edge"));
        removeLeft(s.test("Returns the number of edges that are left;"));
        removeNoEdge(s.test("BAD_INDEX if there is no such edge."));
        s.section("Promise 5: edges");
        edges(s.test("Returns the number of edges."));
        s.plain("Returns the number.");
    }

    private static void edge(Sentences s) {
        s.section("Promise 6: edge");
        s.plain("Returns a property of an edge.");
        edgeNumber(s.test("`edge`: number of the edge"));
        properties(s.test("`what`: 0 the node from which it goes, 1 that to which it goes, 2 its trust,"
            + " 3 its delay"));
        edgeNone(s.test("Returns the property; BAD_INDEX if there is no such edge;"));
        edgeBadWhat(s.test("BAD_VALUE if what is out of range."));
    }

    private static void edgeBetween(Sentences s) {
        s.section("Promise 7: edgeBetween");
        s.plain("Returns the edge from a node to another one.");
        betweenFrom(s.test("`from`: a node"));
        betweenTo(s.test("`to`: a node"));
        between(s.test("Returns its number; NONE if there is none;"));
        betweenNoNode(s.test("BAD_INDEX if there is no such node (either one)."));
    }

    private static void setHorizon(Sentences s) {
        s.section("Promise 8: setHorizon");
        horizonSets(s.test("Sets the horizon."));
        horizonRecorded(s.test("Recorded."));
        horizonRange(s.test("`horizon`: H, 0 to 30"));
        horizonPrevious(s.test("Returns the previous horizon;"));
        horizonBad(s.test("BAD_VALUE if horizon is out of range."));
    }

    private static void isEdge(Check check, RumourSource x, int edge, int[] due) {
        for (int what = 0; what < 4; what++) {
            check.due("edge(" + edge + ", " + what + ")", x.edge(edge, what), due[what]);
        }
    }

    // ---- addEdge

    private static void adds(Check check) {
        RumourSource x = new RumourSource();
        x.addEdge(6, 2, 7, 4);
        x.addEdge(2, 6, 10, 1);
        check.due("edges()", x.edges(), 2);
        isEdge(check, x, 0, new int[] {6, 2, 7, 4});
        isEdge(check, x, 1, new int[] {2, 6, 10, 1});
        check.due("timeBy(64, 1, 2)", x.timeBy(64, 1, 2), 4);
        RumourSource y = Check.loaded("0=7;1=-");
        y.addEdge(0, 1, 5, 1);
        check.due("observed(0), an edge leaves observations", y.observed(0), 7);
        check.due("observed(1), an edge leaves observations", y.observed(1), -1);
    }

    private static void addRecorded(Check check) {
        RumourSource x = new RumourSource();
        long before = x.digest();
        x.addEdge(0, 1, 5, 1);
        check.due("undo()", x.undo(), 0);
        check.due("digest()", x.digest(), before);
        for (int e = 0; e < 12; e++) {
            x.addEdge(Check.from(e), Check.to(e), 5, 1);
        }
        check.due("undo() of the edge 11", x.undo(), 4);
        check.due("edges()", x.edges(), 11);
    }

    private static void addFrom(Check check) {
        for (int node = 0; node < 8; node++) {
            RumourSource x = new RumourSource();
            check.due("addEdge(" + node + ", ..)", x.addEdge(node, 7 - node, 5, 1), 0);
            check.due("edge(0, 0)", x.edge(0, 0), node);
        }
        check.due("addEdge(-1, 0, 5, 1)", new RumourSource().addEdge(-1, 0, 5, 1), -2);
        check.due("addEdge(8, 0, 5, 1)", new RumourSource().addEdge(8, 0, 5, 1), -2);
    }

    private static void addTo(Check check) {
        for (int node = 0; node < 8; node++) {
            RumourSource x = new RumourSource();
            check.due("addEdge(.., " + node + ", ..)", x.addEdge(7 - node, node, 5, 1), 0);
            check.due("edge(0, 1)", x.edge(0, 1), node);
            check.due("addEdge to itself", x.addEdge(node, node, 5, 1), -3);
        }
        check.due("addEdge(0, -1, 5, 1)", new RumourSource().addEdge(0, -1, 5, 1), -2);
        check.due("addEdge(0, 8, 5, 1)", new RumourSource().addEdge(0, 8, 5, 1), -2);
    }

    private static void addTrust(Check check) {
        for (int trust = -1; trust <= 11; trust++) {
            RumourSource x = new RumourSource();
            boolean fine = trust >= 0 && trust <= 10;
            check.due("addEdge(0, 1, " + trust + ", 1)", x.addEdge(0, 1, trust, 1), fine ? 0 : -3);
            check.due("edge(0, 2)", x.edge(0, 2), fine ? trust : -2);
        }
    }

    private static void addDelay(Check check) {
        for (int delay = 0; delay <= 6; delay++) {
            RumourSource x = new RumourSource();
            boolean fine = delay >= 1 && delay <= 5;
            check.due("addEdge(0, 1, 5, " + delay + ")", x.addEdge(0, 1, 5, delay), fine ? 0 : -3);
            check.due("edge(0, 3)", x.edge(0, 3), fine ? delay : -2);
        }
    }

    private static void addNumber(Check check) {
        RumourSource x = new RumourSource();
        for (int e = 0; e < 12; e++) {
            check.due("addEdge(..)", x.addEdge(Check.from(e), Check.to(e), 5, 1), e);
        }
        x.removeEdge(3);
        check.due("addEdge(3, 4, 5, 1), the last one now", x.addEdge(3, 4, 5, 1), 11);
        check.due("edgeBetween(3, 4)", x.edgeBetween(3, 4), 11);
    }

    private static void addNoNode(Check check) {
        RumourSource x = Check.withEdges(12);
        for (int bad : Check.beyond(0, 7)) {
            check.due("addEdge(" + bad + ", 0, 5, 1)", x.addEdge(bad, 0, 5, 1), -2);
            check.due("addEdge(0, " + bad + ", 5, 1)", x.addEdge(0, bad, 5, 1), -2);
            check.due("addEdge(" + bad + ", " + bad + ", 11, 6)", x.addEdge(bad, bad, 11, 6), -2);
        }
        check.due("edges()", x.edges(), 12);
    }

    private static void addBadValue(Check check) {
        for (RumourSource x : new RumourSource[] {new RumourSource(), Check.withEdges(12)}) {
            int edges = x.edges();
            for (int bad : Check.beyond(0, 10)) {
                check.due("addEdge(0, 1, " + bad + ", 1)", x.addEdge(0, 1, bad, 1), -3);
            }
            for (int bad : Check.beyond(1, 5)) {
                check.due("addEdge(0, 1, 5, " + bad + ")", x.addEdge(0, 1, 5, bad), -3);
            }
            check.due("addEdge(0, 0, 5, 1)", x.addEdge(0, 0, 5, 1), -3);
            check.due("addEdge(7, 7, 5, 1)", x.addEdge(7, 7, 5, 1), -3);
            check.due("edges()", x.edges(), edges);
        }
    }

    private static void addSuchAnEdge(Check check) {
        RumourSource x = new RumourSource();
        x.addEdge(4, 2, 5, 1);
        check.due("addEdge(4, 2, 5, 1)", x.addEdge(4, 2, 5, 1), -4);
        check.due("addEdge(4, 2, 6, 2), with other numbers", x.addEdge(4, 2, 6, 2), -4);
        isEdge(check, x, 0, new int[] {4, 2, 5, 1});
        check.due("edges()", x.edges(), 1);
        check.due("addEdge(2, 4, 5, 1), the other way", x.addEdge(2, 4, 5, 1), 1);
        RumourSource full = Check.withEdges(12);
        for (int e = 0; e < 12; e++) {
            check.due("addEdge again, of twelve " + e,
                full.addEdge(Check.from(e), Check.to(e), 5, 1), -4);
        }
    }

    private static void addFull(Check check) {
        RumourSource x = Check.withEdges(11);
        check.due("addEdge(3, 5, 5, 1) beside eleven", x.addEdge(3, 5, 5, 1), 11);
        check.due("addEdge(5, 0, 5, 1) beside twelve", x.addEdge(5, 0, 5, 1), -5);
        check.due("edges()", x.edges(), 12);
        check.due("undo() of the edge 11", x.undo(), 4);
        check.due("addEdge(5, 0, 5, 1) beside eleven", x.addEdge(5, 0, 5, 1), 11);
    }

    // ---- setEdge

    private static void sets(Check check) {
        RumourSource x = Check.loaded("0>1*4+2;1>2*5+3;2>3*6+4");
        x.setEdge(1, 9, 1);
        isEdge(check, x, 0, new int[] {0, 1, 4, 2});
        isEdge(check, x, 1, new int[] {1, 2, 9, 1});
        isEdge(check, x, 2, new int[] {2, 3, 6, 4});
        check.due("timeBy(2, 2, 2)", x.timeBy(2, 2, 2), 1);
        check.due("weight(7)", x.weight(7), 4 * 9 * 6);
    }

    private static void setRecorded(Check check) {
        RumourSource x = Check.loaded("0>1*4+2");
        x.setEdge(0, 9, 1);
        x.setEdge(0, 9, 1);
        check.due("undo(), of the call that changes nothing", x.undo(), 2);
        check.due("undo()", x.undo(), 1);
        isEdge(check, x, 0, new int[] {0, 1, 4, 2});
    }

    private static void setNumber(Check check) {
        RumourSource x = Check.withEdges(12);
        for (int e = 0; e < 12; e++) {
            check.due("setEdge(" + e + ", 10, 5)", x.setEdge(e, 10, 5), e % 11);
            isEdge(check, x, e, new int[] {Check.from(e), Check.to(e), 10, 5});
        }
        check.due("setEdge(12, 10, 5)", x.setEdge(12, 10, 5), -2);
        check.due("setEdge(-1, 10, 5)", x.setEdge(-1, 10, 5), -2);
    }

    private static void setTrust(Check check) {
        for (int trust = -1; trust <= 11; trust++) {
            RumourSource x = Check.loaded("0>1*4+2");
            boolean fine = trust >= 0 && trust <= 10;
            check.due("setEdge(0, " + trust + ", 1)", x.setEdge(0, trust, 1), fine ? 4 : -3);
            check.due("edge(0, 2)", x.edge(0, 2), fine ? trust : 4);
        }
    }

    private static void setDelay(Check check) {
        for (int delay = 0; delay <= 6; delay++) {
            RumourSource x = Check.loaded("0>1*4+2");
            boolean fine = delay >= 1 && delay <= 5;
            check.due("setEdge(0, 5, " + delay + ")", x.setEdge(0, 5, delay), fine ? 4 : -3);
            check.due("edge(0, 3)", x.edge(0, 3), fine ? delay : 2);
        }
    }

    private static void setPrevious(Check check) {
        RumourSource x = Check.loaded("0>1*4+2");
        int[] trusts = {0, 10, 10, 0, 7};
        int before = 4;
        for (int trust : trusts) {
            check.due("setEdge(0, " + trust + ", 3)", x.setEdge(0, trust, 3), before);
            before = trust;
        }
    }

    private static void setNoEdge(Check check) {
        check.due("setEdge(0, 5, 1) without edges", new RumourSource().setEdge(0, 5, 1), -2);
        RumourSource x = Check.withEdges(5);
        for (int bad : Check.beyond(0, 4)) {
            check.due("setEdge(" + bad + ", 5, 1)", x.setEdge(bad, 5, 1), -2);
            check.due("setEdge(" + bad + ", 11, 0)", x.setEdge(bad, 11, 0), -2);
        }
        x.removeEdge(0);
        check.due("setEdge(4, 5, 1) of four", x.setEdge(4, 5, 1), -2);
    }

    private static void setBadValue(Check check) {
        RumourSource x = Check.loaded("0>1*4+2");
        for (int bad : Check.beyond(0, 10)) {
            check.due("setEdge(0, " + bad + ", 1)", x.setEdge(0, bad, 1), -3);
        }
        for (int bad : Check.beyond(1, 5)) {
            check.due("setEdge(0, 1, " + bad + ")", x.setEdge(0, 1, bad), -3);
        }
        isEdge(check, x, 0, new int[] {0, 1, 4, 2});
        check.due("undo(), only of the load", x.undo(), 0);
    }

    // ---- removeEdge, edges

    private static void removes(Check check) {
        for (int gone = 0; gone < 12; gone++) {
            RumourSource x = Check.withEdges(12);
            x.removeEdge(gone);
            check.due("edges()", x.edges(), 11);
            for (int e = 0; e < 11; e++) {
                int old = e < gone ? e : e + 1;
                isEdge(check, x, e, new int[] {Check.from(old), Check.to(old), old % 11, old % 5 + 1});
            }
            check.due("edge(11, 0)", x.edge(11, 0), -2);
            check.due("the edge that has gone",
                x.edgeBetween(Check.from(gone), Check.to(gone)), -1);
        }
        RumourSource y = Check.loaded("0>1*4+2;1>2*5+3");
        y.removeEdge(0);
        check.due("timeBy(2, 1, 2), the mask follows the numbers", y.timeBy(2, 1, 2), 3);
        check.due("weight(1)", y.weight(1), 5);
        check.due("weight(2)", y.weight(2), -3);
    }

    private static void removeRecorded(Check check) {
        RumourSource x = Check.loaded("0>1*4+2;1>2*5+3;2>3*6+4");
        long before = x.digest();
        x.removeEdge(1);
        check.due("undo()", x.undo(), 1);
        check.due("digest()", x.digest(), before);
        isEdge(check, x, 1, new int[] {1, 2, 5, 3});
    }

    private static void removeNumber(Check check) {
        for (int edges = 1; edges <= 12; edges++) {
            RumourSource x = Check.withEdges(edges);
            check.due("removeEdge(" + edges + ")", x.removeEdge(edges), -2);
            check.due("removeEdge(" + (edges - 1) + ")", x.removeEdge(edges - 1), edges - 1);
            check.due("removeEdge(" + (edges - 1) + ") again", x.removeEdge(edges - 1), -2);
        }
    }

    private static void removeLeft(Check check) {
        RumourSource x = Check.withEdges(12);
        for (int left = 11; left >= 0; left--) {
            check.due("removeEdge(0)", x.removeEdge(0), left);
            check.due("edges()", x.edges(), left);
        }
        check.due("addEdge(0, 1, 5, 1), as the first one", x.addEdge(0, 1, 5, 1), 0);
    }

    private static void removeNoEdge(Check check) {
        check.due("removeEdge(0) without edges", new RumourSource().removeEdge(0), -2);
        RumourSource x = Check.withEdges(3);
        for (int bad : Check.beyond(0, 2)) {
            check.due("removeEdge(" + bad + ")", x.removeEdge(bad), -2);
        }
        check.due("edges()", x.edges(), 3);
        check.due("undo(), only of the last addEdge()", x.undo(), 2);
    }

    private static void edges(Check check) {
        for (int edges = 0; edges <= 12; edges++) {
            check.due("edges()", Check.withEdges(edges).edges(), edges);
        }
        RumourSource x = Check.withEdges(12);
        x.addEdge(5, 0, 5, 1);
        check.due("edges() after a refused one", x.edges(), 12);
    }

    // ---- edge, edgeBetween

    private static void edgeNumber(Check check) {
        RumourSource x = Check.withEdges(12);
        for (int e = 0; e < 12; e++) {
            isEdge(check, x, e, new int[] {Check.from(e), Check.to(e), e % 11, e % 5 + 1});
        }
        check.due("edge(12, 0)", x.edge(12, 0), -2);
        check.due("edge(-1, 0)", x.edge(-1, 0), -2);
    }

    private static void properties(Check check) {
        RumourSource x = Check.loaded("6>3*9+4;3>6*0+5");
        isEdge(check, x, 0, new int[] {6, 3, 9, 4});
        isEdge(check, x, 1, new int[] {3, 6, 0, 5});
        check.due("edge(0, -1)", x.edge(0, -1), -3);
        check.due("edge(0, 4)", x.edge(0, 4), -3);
    }

    private static void edgeNone(Check check) {
        check.due("edge(0, 0) without edges", new RumourSource().edge(0, 0), -2);
        RumourSource x = Check.withEdges(7);
        check.due("edge(6, 0)", x.edge(6, 0), 6);
        for (int bad : Check.beyond(0, 6)) {
            check.due("edge(" + bad + ", 3)", x.edge(bad, 3), -2);
            check.due("edge(" + bad + ", 4)", x.edge(bad, 4), -2);
        }
    }

    private static void edgeBadWhat(Check check) {
        RumourSource x = Check.withEdges(12);
        for (int bad : Check.beyond(0, 3)) {
            check.due("edge(0, " + bad + ")", x.edge(0, bad), -3);
            check.due("edge(11, " + bad + ")", x.edge(11, bad), -3);
        }
    }

    private static void betweenFrom(Check check) {
        RumourSource x = Check.withEdges(12);
        for (int node = 0; node < 8; node++) {
            check.due("edgeBetween(" + node + ", ..)", x.edgeBetween(node, (node + 1) % 8), node);
        }
        check.due("edgeBetween(8, 1)", x.edgeBetween(8, 1), -2);
        check.due("edgeBetween(-1, 1)", x.edgeBetween(-1, 1), -2);
    }

    private static void betweenTo(Check check) {
        RumourSource x = Check.withEdges(12);
        for (int node = 0; node < 8; node++) {
            check.due("edgeBetween(.., " + node + ")", x.edgeBetween((node + 7) % 8, node), (node + 7) % 8);
            check.due("edgeBetween of one node", x.edgeBetween(node, node), -1);
        }
        check.due("edgeBetween(1, 8)", x.edgeBetween(1, 8), -2);
        check.due("edgeBetween(1, -1)", x.edgeBetween(1, -1), -2);
    }

    private static void between(Check check) {
        RumourSource x = Check.loaded("0>1*4+2;1>0*5+3;7>6*0+1");
        check.due("edgeBetween(0, 1)", x.edgeBetween(0, 1), 0);
        check.due("edgeBetween(1, 0)", x.edgeBetween(1, 0), 1);
        check.due("edgeBetween(7, 6), with the trust 0", x.edgeBetween(7, 6), 2);
        check.due("edgeBetween(6, 7), the other way", x.edgeBetween(6, 7), -1);
        check.due("edgeBetween(0, 2)", x.edgeBetween(0, 2), -1);
        x.removeEdge(0);
        check.due("edgeBetween(0, 1), which has gone", x.edgeBetween(0, 1), -1);
        check.due("edgeBetween(1, 0)", x.edgeBetween(1, 0), 0);
        check.due("edgeBetween(0, 0) without edges", new RumourSource().edgeBetween(0, 0), -1);
    }

    private static void betweenNoNode(Check check) {
        RumourSource x = Check.withEdges(12);
        for (int bad : Check.beyond(0, 7)) {
            check.due("edgeBetween(" + bad + ", 0)", x.edgeBetween(bad, 0), -2);
            check.due("edgeBetween(0, " + bad + ")", x.edgeBetween(0, bad), -2);
            check.due("edgeBetween(" + bad + ", " + bad + ")", x.edgeBetween(bad, bad), -2);
        }
    }

    // ---- setHorizon

    private static void horizonSets(Check check) {
        RumourSource x = Check.loaded("0>1*10+5;1>2*10+5");
        int[] horizons = {0, 4, 5, 9, 10, 30};
        int[] reached = {1, 1, 2, 2, 3, 3};
        for (int i = 0; i < horizons.length; i++) {
            x.setHorizon(horizons[i]);
            check.due("reach(1) with " + horizons[i], x.reach(1), 100L * reached[i]);
            check.due("likelihood(1)", x.likelihood(1), 100);
            check.due("timeBy(1, 3, 2)", x.timeBy(1, 3, 2), horizons[i] >= 10 ? 10 : -1);
            check.due("simulate(1, 0)", x.simulate(1, 0), reached[i]);
            for (int node = 0; node < 8; node++) {
                x.forget(node);
            }
        }
    }

    private static void horizonRecorded(Check check) {
        RumourSource x = new RumourSource();
        x.setHorizon(20);
        x.setHorizon(0);
        check.due("undo()", x.undo(), 1);
        check.due("undo(), of the call that changes nothing", x.undo(), 0);
        check.due("setHorizon(5)", x.setHorizon(5), 20);
    }

    private static void horizonRange(Check check) {
        RumourSource x = new RumourSource();
        x.setHorizon(0);
        for (int h = 0; h <= 30; h++) {
            check.due("setHorizon(" + h + ")", x.setHorizon(h), Math.max(h - 1, 0));
        }
        check.due("setHorizon(31)", x.setHorizon(31), -3);
        check.due("setHorizon(-1)", x.setHorizon(-1), -3);
    }

    private static void horizonPrevious(Check check) {
        RumourSource x = new RumourSource();
        check.due("setHorizon(0), 20 at first", x.setHorizon(0), 20);
        check.due("setHorizon(30)", x.setHorizon(30), 0);
        check.due("setHorizon(30)", x.setHorizon(30), 30);
        check.due("setHorizon(1)", x.setHorizon(1), 30);
    }

    private static void horizonBad(Check check) {
        RumourSource x = new RumourSource();
        for (int bad : Check.beyond(0, 30)) {
            check.due("setHorizon(" + bad + ")", x.setHorizon(bad), -3);
        }
        check.due("undo(), none is recorded", x.undo(), -4);
        check.due("setHorizon(3)", x.setHorizon(3), 20);
    }
}
