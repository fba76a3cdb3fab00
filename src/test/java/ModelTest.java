import java.util.ArrayList;
import java.util.List;
import java.util.Random;

/**
 * Random runs of calls, each answer compared with that of a model that is as plain as can be: it
 * goes through all outcomes, one by one, with the times from each node to each.
 */
public final class ModelTest {
    private static final int RUNS = 500;
    private static final int CALLS = 512;
    /** A text of 120 bytes, and the calls before and behind it. */
    private static final int CALLS_OF_A_TEXT = 125;

    public static void main(String[] args) {
        Check check = new Check("ModelTest");
        for (int run = 0; run < RUNS && !check.anyWrong(); run++) {
            new Run(check, run).go();
        }
        check.end();
    }

    private static final class Run {
        private final Check check;
        private final int number;
        private final Random random;
        private final RumourSource x = new RumourSource();
        private final Model model = new Model();
        private final int most;
        private int calls = 0;

        Run(Check check, int number) {
            this.check = check;
            this.number = number;
            this.random = new Random(number);
            this.most = number % 3 == 0 ? 12 : 3 + number % 8;
        }

        void go() {
            while (calls < CALLS && !check.anyWrong()) {
                int kind = random.nextInt(100);
                if (kind < 44) {
                    change();
                } else if (kind < 50 && calls + CALLS_OF_A_TEXT <= CALLS) {
                    text();
                } else {
                    ask();
                }
            }
        }

        private void due(String call, long got, long want) {
            calls++;
            check.due("run " + number + ": " + call, got, want);
        }

        /** A number from low to high, and at times one out of this range. */
        private int pick(int low, int high) {
            if (random.nextInt(25) == 0) {
                int[] odd = {low - 1, high + 1, Integer.MIN_VALUE, Integer.MAX_VALUE, low - 2};
                return odd[random.nextInt(odd.length)];
            }
            return low + random.nextInt(high - low + 1);
        }

        private int trust() {
            int[] often = {0, 10, 5, 5};
            return random.nextInt(3) == 0 ? often[random.nextInt(4)] : pick(0, 10);
        }

        private int time() {
            return random.nextInt(3) == 0 ? -1 : random.nextInt(4) == 0 ? pick(0, 30) : pick(0, 9);
        }

        private int start() {
            return random.nextBoolean() ? 1 << random.nextInt(8) : pick(1, 255);
        }

        private int outcome() {
            return pick(0, (1 << model.edges.size()) - 1);
        }

        private void change() {
            int a = pick(0, 7);
            int b = pick(0, 7);
            int t = trust();
            int d = pick(1, 5);
            int e = pick(0, Math.max(model.edges.size() - 1, 0));
            switch (random.nextInt(14)) {
                case 0: case 1: case 2: case 3:
                    if (model.edges.size() < most || most == 12) {
                        due("addEdge(" + a + ", " + b + ", " + t + ", " + d + ")",
                            x.addEdge(a, b, t, d), model.addEdge(a, b, t, d));
                    }
                    break;
                case 4:
                    due("setEdge(" + e + ", " + t + ", " + d + ")", x.setEdge(e, t, d),
                        model.setEdge(e, t, d));
                    break;
                case 5:
                    if (random.nextInt(4) == 0) {
                        due("removeEdge(" + e + ")", x.removeEdge(e), model.removeEdge(e));
                    }
                    break;
                case 6:
                    int h = random.nextBoolean() ? pick(0, 30) : pick(5, 15);
                    due("setHorizon(" + h + ")", x.setHorizon(h), model.setHorizon(h));
                    break;
                case 7: case 8:
                    int when = time();
                    due("observe(" + a + ", " + when + ")", x.observe(a, when),
                        model.observe(a, when));
                    break;
                case 9: case 10:
                    due("forget(" + a + ")", x.forget(a), model.forget(a));
                    break;
                case 11:
                    int sensors = pick(0, 255);
                    due("setSensors(" + sensors + ")", x.setSensors(sensors),
                        model.setSensors(sensors));
                    break;
                case 12:
                    int from = start();
                    int seed = random.nextInt();
                    due("simulate(" + from + ", " + seed + ")", x.simulate(from, seed),
                        model.simulate(from, seed));
                    break;
                default:
                    due("undo()", x.undo(), model.undo());
            }
        }

        private void text() {
            if (random.nextInt(3) > 0) {
                due("clearText()", x.clearText(), model.clearText());
            }
            String items = items();
            for (int i = 0; i < Math.min(items.length(), 120); i++) {
                due("type(" + (int) items.charAt(i) + ")", x.type(items.charAt(i)),
                    model.type(items.charAt(i)));
            }
            int odd = pick(0, 255);
            if (odd < 0 || odd > 255) {
                due("type(" + odd + ")", x.type(odd), model.type(odd));
            }
            due("textFault() of '" + model.text + "'", x.textFault(), model.textFault());
            if (random.nextInt(2) == 0) {
                due("load() of '" + model.text + "'", x.load(), model.load());
            }
        }

        /** Items that mostly have no fault; then at times one byte is changed. */
        private String items() {
            StringBuilder s = new StringBuilder();
            int count = random.nextInt(12) == 0 ? 18 : 1 + random.nextInt(4);
            for (int item = 0; item < count; item++) {
                s.append(item == 0 ? "" : ";").append(random.nextInt(8));
                if (random.nextInt(3) == 0 && model.edges.size() < most) {
                    s.append('>').append(random.nextInt(8)).append('*').append(random.nextInt(11));
                    s.append(random.nextInt(5) == 0 ? " +0" : "+").append(1 + random.nextInt(5));
                } else {
                    s.append('=').append(random.nextInt(3) == 0 ? "-" : "" + random.nextInt(31));
                }
            }
            for (int change = random.nextInt(5); change > 2; change--) {
                String bytes = "0123456789>=*+-;  \u00ff\t";
                char odd = bytes.charAt(random.nextInt(bytes.length()));
                int at = random.nextInt(s.length());
                switch (random.nextInt(3)) {
                    case 0:
                        s.setCharAt(at, odd);
                        break;
                    case 1:
                        s.insert(at, odd);
                        break;
                    default:
                        s.setLength(Math.max(at, 1));
                }
            }
            return s.toString();
        }

        private void ask() {
            int a = pick(0, 7);
            int b = pick(0, 7);
            int start = start();
            int outcome = outcome();
            switch (random.nextInt(18)) {
                case 0:
                    due("edges()", x.edges(), model.edges.size());
                    break;
                case 1:
                    int e = pick(0, 11);
                    int what = pick(0, 3);
                    due("edge(" + e + ", " + what + ")", x.edge(e, what), model.edge(e, what));
                    break;
                case 2:
                    due("edgeBetween(" + a + ", " + b + ")", x.edgeBetween(a, b),
                        model.edgeBetween(a, b));
                    break;
                case 3:
                    due("observed(" + a + ")", x.observed(a), model.observed(a));
                    break;
                case 4:
                    due("timeBy(" + start + ", " + outcome + ", " + a + ")",
                        x.timeBy(start, outcome, a), model.timeBy(start, outcome, a));
                    break;
                case 5:
                    due("weight(" + outcome + ")", x.weight(outcome), model.weight(outcome));
                    break;
                case 6:
                    due("fits(" + start + ", " + outcome + ")", x.fits(start, outcome),
                        model.fits(start, outcome));
                    break;
                case 7:
                    int time = time();
                    due("timeWeight(" + start + ", " + a + ", " + time + ")",
                        x.timeWeight(start, a, time), model.timeWeight(start, a, time));
                    break;
                case 8:
                    due("reach(" + start + ")", x.reach(start), model.reach(start));
                    break;
                case 9:
                    due("likelihood(" + start + ")", x.likelihood(start), model.likelihood(start));
                    break;
                case 10:
                    due("candidates()", x.candidates(), model.ranked().size());
                    break;
                case 11:
                    int rank = random.nextBoolean() ? pick(0, 1) : pick(0, 7);
                    due("candidate(" + rank + ")", x.candidate(rank), model.candidate(rank));
                    break;
                case 12:
                    due("belief(" + a + ")", x.belief(a), model.belief(a));
                    break;
                case 13:
                    due("decoy(" + a + ")", x.decoy(a), model.decoy(a));
                    break;
                case 14:
                    due("possible()", x.possible(), model.possible());
                    break;
                case 15:
                    due("explanation(" + start + ")", x.explanation(start),
                        model.explanation(start));
                    break;
                case 16:
                    due("values(" + a + ")", x.values(a), model.values(a));
                    break;
                default:
                    due("digest()", x.digest(), model.digest());
            }
        }
    }

    /** The document, word for word, as far as that is possible, without any care for the time. */
    private static final class Model {
        private static final int FAR = 1000;

        private List<int[]> edges = new ArrayList<>();
        private int horizon = 20;
        private int[] seen = {100, 100, 100, 100, 100, 100, 100, 100};
        private int sensors = 255;
        private String text = "";
        private final List<Object[]> history = new ArrayList<>();
        /** For each outcome the times from each node to each, made anew after each change. */
        private int[][][] ways = null;

        private Object[] state() {
            List<int[]> copy = new ArrayList<>();
            for (int[] e : edges) {
                copy.add(e.clone());
            }
            return new Object[] {copy, horizon, seen.clone(), sensors};
        }

        private void record() {
            history.add(state());
            if (history.size() > 5) {
                history.remove(0);
            }
            ways = null;
        }

        @SuppressWarnings("unchecked")
        int undo() {
            if (history.isEmpty()) {
                return -4;
            }
            Object[] last = history.remove(history.size() - 1);
            edges = (List<int[]>) last[0];
            horizon = (Integer) last[1];
            seen = (int[]) last[2];
            sensors = (Integer) last[3];
            ways = null;
            return history.size();
        }

        private static boolean in(int v, int low, int high) {
            return low <= v && v <= high;
        }

        private int place(int from, int to) {
            for (int e = 0; e < edges.size(); e++) {
                if (edges.get(e)[0] == from && edges.get(e)[1] == to) {
                    return e;
                }
            }
            return -1;
        }

        int addEdge(int from, int to, int trust, int delay) {
            if (!in(from, 0, 7) || !in(to, 0, 7)) {
                return -2;
            }
            if (!in(trust, 0, 10) || !in(delay, 1, 5) || from == to) {
                return -3;
            }
            if (place(from, to) >= 0) {
                return -4;
            }
            if (edges.size() == 12) {
                return -5;
            }
            record();
            edges.add(new int[] {from, to, trust, delay});
            return edges.size() - 1;
        }

        int setEdge(int e, int trust, int delay) {
            if (!in(e, 0, edges.size() - 1)) {
                return -2;
            }
            if (!in(trust, 0, 10) || !in(delay, 1, 5)) {
                return -3;
            }
            record();
            int[] old = edges.get(e);
            edges.set(e, new int[] {old[0], old[1], trust, delay});
            return old[2];
        }

        int removeEdge(int e) {
            if (!in(e, 0, edges.size() - 1)) {
                return -2;
            }
            record();
            edges.remove(e);
            return edges.size();
        }

        int edge(int e, int what) {
            return !in(e, 0, edges.size() - 1) ? -2 : !in(what, 0, 3) ? -3 : edges.get(e)[what];
        }

        int edgeBetween(int from, int to) {
            return !in(from, 0, 7) || !in(to, 0, 7) ? -2 : place(from, to);
        }

        int setHorizon(int h) {
            if (!in(h, 0, 30)) {
                return -3;
            }
            record();
            int old = horizon;
            horizon = h;
            return old;
        }

        int observe(int node, int time) {
            if (!in(node, 0, 7)) {
                return -2;
            }
            if (!in(time, -1, 30)) {
                return -3;
            }
            record();
            int old = seen[node];
            seen[node] = time;
            return old;
        }

        int forget(int node) {
            if (!in(node, 0, 7)) {
                return -2;
            }
            record();
            int old = seen[node];
            seen[node] = 100;
            return old;
        }

        int observed(int node) {
            return in(node, 0, 7) ? seen[node] : -2;
        }

        int setSensors(int mask) {
            if (!in(mask, 0, 255)) {
                return -3;
            }
            record();
            int old = sensors;
            sensors = mask;
            return old;
        }

        int simulate(int start, int seed) {
            if (!in(start, 1, 255)) {
                return -3;
            }
            record();
            int v = seed;
            int outcome = 0;
            for (int e = 0; e < edges.size(); e++) {
                v = v * 1103515245 + 12345;
                if ((v >>> 8) % 10 < edges.get(e)[2]) {
                    outcome += 1 << e;
                }
            }
            int heard = 0;
            for (int node = 0; node < 8; node++) {
                int time = time(start, outcome, node);
                heard += time >= 0 ? 1 : 0;
                seen[node] = (sensors & 1 << node) != 0 ? time : 100;
            }
            return heard;
        }

        private int[][] waysBy(int outcome) {
            int[][] far = new int[8][8];
            for (int a = 0; a < 8; a++) {
                for (int b = 0; b < 8; b++) {
                    far[a][b] = a == b ? 0 : FAR;
                }
            }
            for (int e = 0; e < edges.size(); e++) {
                if ((outcome & 1 << e) != 0) {
                    far[edges.get(e)[0]][edges.get(e)[1]] = edges.get(e)[3];
                }
            }
            for (int k = 0; k < 8; k++) {
                for (int a = 0; a < 8; a++) {
                    for (int b = 0; b < 8; b++) {
                        far[a][b] = Math.min(far[a][b], far[a][k] + far[k][b]);
                    }
                }
            }
            return far;
        }

        private int time(int start, int outcome, int node) {
            if (ways == null) {
                ways = new int[1 << edges.size()][][];
            }
            if (ways[outcome] == null) {
                ways[outcome] = waysBy(outcome);
            }
            int least = FAR;
            for (int s = 0; s < 8; s++) {
                if ((start & 1 << s) != 0) {
                    least = Math.min(least, ways[outcome][s][node]);
                }
            }
            return least > horizon ? -1 : least;
        }

        private int all() {
            return 1 << edges.size();
        }

        private boolean wrong(int start, int outcome) {
            return !in(start, 1, 255) || !in(outcome, 0, all() - 1);
        }

        int timeBy(int start, int outcome, int node) {
            return !in(node, 0, 7) ? -2 : wrong(start, outcome) ? -3 : time(start, outcome, node);
        }

        long weight(int outcome) {
            if (!in(outcome, 0, all() - 1)) {
                return -3;
            }
            long product = 1;
            for (int e = 0; e < edges.size(); e++) {
                int trust = edges.get(e)[2];
                product *= (outcome & 1 << e) != 0 ? trust : 10 - trust;
            }
            return product;
        }

        private boolean fit(int start, int outcome) {
            for (int node = 0; node < 8; node++) {
                if (seen[node] != 100 && seen[node] != time(start, outcome, node)) {
                    return false;
                }
            }
            return true;
        }

        int fits(int start, int outcome) {
            return wrong(start, outcome) ? -3 : fit(start, outcome) ? 1 : 0;
        }

        long timeWeight(int start, int node, int time) {
            if (!in(node, 0, 7)) {
                return -2;
            }
            if (!in(start, 1, 255) || !in(time, -1, 30)) {
                return -3;
            }
            long sum = 0;
            for (int outcome = 0; outcome < all(); outcome++) {
                sum += time(start, outcome, node) == time ? weight(outcome) : 0;
            }
            return sum;
        }

        long reach(int start) {
            if (!in(start, 1, 255)) {
                return -3;
            }
            long sum = 0;
            for (int outcome = 0; outcome < all(); outcome++) {
                for (int node = 0; node < 8; node++) {
                    sum += time(start, outcome, node) >= 0 ? weight(outcome) : 0;
                }
            }
            return sum;
        }

        long likelihood(int start) {
            if (!in(start, 1, 255)) {
                return -3;
            }
            long sum = 0;
            for (int outcome = 0; outcome < all(); outcome++) {
                sum += fit(start, outcome) ? weight(outcome) : 0;
            }
            return sum;
        }

        List<Integer> ranked() {
            List<Integer> nodes = new ArrayList<>();
            long[] likelihoods = new long[8];
            for (int node = 0; node < 8; node++) {
                likelihoods[node] = likelihood(1 << node);
                if (likelihoods[node] > 0) {
                    nodes.add(node);
                }
            }
            nodes.sort((a, b) -> likelihoods[a] != likelihoods[b]
                ? Long.compare(likelihoods[b], likelihoods[a]) : Integer.compare(a, b));
            return nodes;
        }

        int candidate(int rank) {
            List<Integer> nodes = ranked();
            return in(rank, 0, nodes.size() - 1) ? nodes.get(rank) : -2;
        }

        int belief(int node) {
            if (!in(node, 0, 7)) {
                return -2;
            }
            long sum = 0;
            for (int other : ranked()) {
                sum += likelihood(1 << other);
            }
            return ranked().contains(node) ? (int) (1000 * likelihood(1 << node) / sum) : 0;
        }

        int decoy(int node) {
            if (!in(node, 0, 7)) {
                return -2;
            }
            int best = -1;
            for (int other = 7; other >= 0; other--) {
                long found = other == node ? 0 : likelihood(1 << node | 1 << other);
                if (found > 0 && (best < 0 || found >= likelihood(1 << node | 1 << best))) {
                    best = other;
                }
            }
            return best;
        }

        int possible() {
            int count = 0;
            for (int start = 1; start < 256; start++) {
                if (Integer.bitCount(start) <= 2 && likelihood(start) > 0) {
                    count++;
                }
            }
            return count;
        }

        int explanation(int start) {
            if (!in(start, 1, 255)) {
                return -3;
            }
            int best = -1;
            for (int outcome = all() - 1; outcome >= 0; outcome--) {
                boolean counts = weight(outcome) > 0 && fit(start, outcome);
                if (counts && (best < 0 || weight(outcome) >= weight(best))) {
                    best = outcome;
                }
            }
            return best;
        }

        int values(int node) {
            if (!in(node, 0, 7)) {
                return -2;
            }
            if (seen[node] != 100) {
                return ranked().isEmpty() ? 0 : 1;
            }
            int count = 0;
            for (int value = -1; value <= 30; value++) {
                seen[node] = value;
                count += anyCandidate() ? 1 : 0;
            }
            seen[node] = 100;
            return count;
        }

        private boolean anyCandidate() {
            for (int node = 0; node < 8; node++) {
                for (int outcome = 0; outcome < all(); outcome++) {
                    if (weight(outcome) > 0 && fit(1 << node, outcome)) {
                        return true;
                    }
                }
            }
            return false;
        }

        int type(int code) {
            if (!in(code, 0, 255)) {
                return -3;
            }
            if (text.length() == 120) {
                return -5;
            }
            text += (char) code;
            return text.length();
        }

        int clearText() {
            int old = text.length();
            text = "";
            return old;
        }

        /**
         * Reads by a table of places: 0 before an item, 1 behind its node, 2 before the second
         * node, 3 behind it, 4 before the trust, 5 behind it, 6 before the delay, 7 behind an item,
         * 8 before a time.
         */
        private int read(List<int[]> to, int[] times) {
            int place = 0;
            int[] item = new int[4];
            int i = 0;
            while (i < text.length()) {
                char c = text.charAt(i);
                if (c == ' ') {
                    i++;
                    continue;
                }
                boolean node = c >= '0' && c <= '7';
                int next = -1;
                int end = i + 1;
                if (place == 0 && node) {
                    item[0] = c - '0';
                    next = 1;
                } else if (place == 1) {
                    next = c == '>' ? 2 : c == '=' ? 8 : -1;
                } else if (place == 2 && node && mayGo(to, item[0], c - '0')) {
                    item[1] = c - '0';
                    next = 3;
                } else if (place == 3) {
                    next = c == '*' ? 4 : -1;
                } else if (place == 5) {
                    next = c == '+' ? 6 : -1;
                } else if (place == 7) {
                    next = c == ';' ? 0 : -1;
                } else if (place == 8 && c == '-') {
                    times[item[0]] = -1;
                    next = 7;
                } else if (place == 4 || place == 6 || place == 8) {
                    while (end < text.length() && Character.isDigit(text.charAt(end))) {
                        end++;
                    }
                    String digits = text.substring(i, end);
                    int high = place == 4 ? 10 : place == 6 ? 5 : 30;
                    boolean fine = digits.matches("[0-9][0-9]?")
                        && in(Integer.parseInt(digits), place == 6 ? 1 : 0, high);
                    if (fine) {
                        next = place == 4 ? 5 : 7;
                        take(to, times, place, item, Integer.parseInt(digits));
                    }
                }
                if (next < 0) {
                    return i;
                }
                place = next;
                i = end;
            }
            return place == 7 ? -1 : text.length();
        }

        private static boolean mayGo(List<int[]> to, int from, int end) {
            boolean there = to.stream().anyMatch(e -> e[0] == from && e[1] == end);
            return from != end && (there || to.size() < 12);
        }

        private static void take(List<int[]> to, int[] times, int place, int[] item, int value) {
            if (place == 8) {
                times[item[0]] = value;
            } else if (place == 4) {
                item[2] = value;
            } else {
                item[3] = value;
                for (int[] e : to) {
                    if (e[0] == item[0] && e[1] == item[1]) {
                        e[2] = item[2];
                        e[3] = value;
                        return;
                    }
                }
                to.add(item.clone());
            }
        }

        private List<int[]> copyOfEdges() {
            List<int[]> copy = new ArrayList<>();
            for (int[] e : edges) {
                copy.add(e.clone());
            }
            return copy;
        }

        int textFault() {
            return read(copyOfEdges(), seen.clone());
        }

        int load() {
            if (textFault() != -1) {
                return -4;
            }
            record();
            read(edges, seen);
            return edges.size();
        }

        long digest() {
            long h = 31 * 17 + edges.size();
            for (int[] e : edges) {
                for (int v : e) {
                    h = 31 * h + v;
                }
            }
            h = 31 * h + horizon;
            for (int v : seen) {
                h = 31 * h + v;
            }
            return 31 * h + sensors;
        }
    }
}
