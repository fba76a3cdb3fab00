/**
 * The source of a rumour: a rumour is told along edges that work by chance and that take time, and
 * from the times at which nodes heard it the exact likelihoods of its sources are found.
 *
 * <p>Every row is made in the constructor; no call makes an object.
 */
public final class RumourSource {
    public static final int NONE = -1, BAD_INDEX = -2, BAD_VALUE = -3, BAD_STATE = -4, FULL = -5;

    private static final int NODES = 8;
    private static final int ALL_NODES = 255;
    private static final int MAX_EDGES = 12;
    private static final int MAX_TRUST = 10;
    private static final int MAX_DELAY = 5;
    private static final int LAST_TIME = 30;
    private static final int FIRST_HORIZON = 20;
    private static final int MAX_HISTORY = 5;
    private static final int MAX_TEXT = 120;
    private static final int MAX_DIGITS = 2;
    private static final int BLANK = 32;
    private static final int UNOBSERVED = 100;

    /** Inside, "never" is a time behind all others, so that times can simply be compared. */
    private static final int NEVER = LAST_TIME + 1;

    private final Scene now = new Scene();
    private final Scene[] past = new Scene[MAX_HISTORY];
    private final Spread spread = new Spread();
    private final Text text = new Text();
    private final long[] likelihoods = new long[NODES];
    private int kept = 0;

    public RumourSource() {
        for (int i = 0; i < past.length; i++) {
            past[i] = new Scene();
        }
    }

    // ---- edges

    public int addEdge(int from, int to, int trust, int delay) {
        if (!isNode(from) || !isNode(to)) {
            return BAD_INDEX;
        }
        if (!isTrust(trust) || !isDelay(delay) || from == to) {
            return BAD_VALUE;
        }
        if (now.find(from, to) != NONE) {
            return BAD_STATE;
        }
        if (now.isFull()) {
            return FULL;
        }
        remember();
        return now.put(from, to, trust, delay);
    }

    public int setEdge(int edge, int trust, int delay) {
        if (!now.hasEdge(edge)) {
            return BAD_INDEX;
        }
        if (!isTrust(trust) || !isDelay(delay)) {
            return BAD_VALUE;
        }
        remember();
        int before = now.trust[edge];
        now.trust[edge] = trust;
        now.delay[edge] = delay;
        return before;
    }

    public int removeEdge(int edge) {
        if (!now.hasEdge(edge)) {
            return BAD_INDEX;
        }
        remember();
        now.drop(edge);
        return now.count;
    }

    public int edges() {
        return now.count;
    }

    public int edge(int edge, int what) {
        if (!now.hasEdge(edge)) {
            return BAD_INDEX;
        }
        switch (what) {
            case 0:
                return now.from[edge];
            case 1:
                return now.to[edge];
            case 2:
                return now.trust[edge];
            case 3:
                return now.delay[edge];
            default:
                return BAD_VALUE;
        }
    }

    public int edgeBetween(int from, int to) {
        if (!isNode(from) || !isNode(to)) {
            return BAD_INDEX;
        }
        return now.find(from, to);
    }

    public int setHorizon(int horizon) {
        if (!isTime(horizon)) {
            return BAD_VALUE;
        }
        remember();
        int before = now.horizon;
        now.horizon = horizon;
        return before;
    }

    // ---- observations

    public int observe(int node, int time) {
        if (!isNode(node)) {
            return BAD_INDEX;
        }
        if (!isTimeOrNone(time)) {
            return BAD_VALUE;
        }
        return replaceSeen(node, time);
    }

    public int forget(int node) {
        if (!isNode(node)) {
            return BAD_INDEX;
        }
        return replaceSeen(node, UNOBSERVED);
    }

    public int observed(int node) {
        if (!isNode(node)) {
            return BAD_INDEX;
        }
        return now.seen[node];
    }

    public int setSensors(int sensors) {
        if (sensors < 0 || sensors > ALL_NODES) {
            return BAD_VALUE;
        }
        remember();
        int before = now.sensors;
        now.sensors = sensors;
        return before;
    }

    public int simulate(int start, int x) {
        if (!isStart(start)) {
            return BAD_VALUE;
        }
        remember();
        spread.follow(now, start, drawOutcome(x));
        int heard = 0;
        for (int node = 0; node < NODES; node++) {
            int time = timeOrNone(spread.times[node]);
            now.seen[node] = (now.sensors >> node & 1) == 1 ? time : UNOBSERVED;
            if (time != NONE) {
                heard++;
            }
        }
        return heard;
    }

    // ---- outcomes

    public int timeBy(int start, int outcome, int node) {
        if (!isNode(node)) {
            return BAD_INDEX;
        }
        if (!isStart(start) || !isOutcome(outcome)) {
            return BAD_VALUE;
        }
        spread.follow(now, start, outcome);
        return timeOrNone(spread.times[node]);
    }

    public long weight(int outcome) {
        if (!isOutcome(outcome)) {
            return BAD_VALUE;
        }
        long product = 1;
        for (int e = 0; e < now.count; e++) {
            int trust = now.trust[e];
            product *= (outcome >> e & 1) == 1 ? trust : MAX_TRUST - trust;
        }
        return product;
    }

    public int fits(int start, int outcome) {
        if (!isStart(start) || !isOutcome(outcome)) {
            return BAD_VALUE;
        }
        spread.wantAsSeen(now);
        spread.follow(now, start, outcome);
        return spread.isAsWanted() ? 1 : 0;
    }

    public long timeWeight(int start, int node, int time) {
        if (!isNode(node)) {
            return BAD_INDEX;
        }
        if (!isStart(start) || !isTimeOrNone(time)) {
            return BAD_VALUE;
        }
        spread.wantOnly(node, time);
        spread.search(now, start, false);
        return spread.total;
    }

    public long reach(int start) {
        if (!isStart(start)) {
            return BAD_VALUE;
        }
        spread.wantNothing();
        spread.search(now, start, false);
        return spread.totalHeard;
    }

    // ---- sources

    public long likelihood(int start) {
        if (!isStart(start)) {
            return BAD_VALUE;
        }
        return likelihoodOf(start);
    }

    public int candidates() {
        int found = 0;
        for (int node = 0; node < NODES; node++) {
            found += countIfPossible(1 << node);
        }
        return found;
    }

    public int candidate(int rank) {
        findLikelihoods();
        for (int node = 0; node < NODES; node++) {
            if (likelihoods[node] > 0 && rankOf(node) == rank) {
                return node;
            }
        }
        return BAD_INDEX;
    }

    public int belief(int node) {
        if (!isNode(node)) {
            return BAD_INDEX;
        }
        findLikelihoods();
        long sum = 0;
        for (int other = 0; other < NODES; other++) {
            sum += likelihoods[other];
        }
        return sum > 0 ? (int) (1000 * likelihoods[node] / sum) : 0;
    }

    public int decoy(int node) {
        if (!isNode(node)) {
            return BAD_INDEX;
        }
        int best = NONE;
        long bestLikelihood = 0;
        for (int other = 0; other < NODES; other++) {
            if (other == node) {
                continue;
            }
            long found = likelihoodOf(1 << node | 1 << other);
            if (found > bestLikelihood) {
                bestLikelihood = found;
                best = other;
            }
        }
        return best;
    }

    public int possible() {
        int found = 0;
        for (int low = 0; low < NODES; low++) {
            // where both are the same, it is a start of one node
            for (int high = low; high < NODES; high++) {
                found += countIfPossible(1 << low | 1 << high);
            }
        }
        return found;
    }

    public int explanation(int start) {
        if (!isStart(start)) {
            return BAD_VALUE;
        }
        spread.wantAsSeen(now);
        spread.search(now, start, false);
        return spread.bestOutcome;
    }

    public int values(int node) {
        if (!isNode(node)) {
            return BAD_INDEX;
        }
        if (now.seen[node] != UNOBSERVED) {
            return candidates() > 0 ? 1 : 0;
        }
        spread.wantAsSeen(now);
        long met = 0;
        for (int source = 0; source < NODES; source++) {
            spread.search(now, 1 << source, false);
            met |= spread.met[node];
        }
        return Long.bitCount(met);
    }

    public int undo() {
        if (kept < 1 || kept > past.length) {
            return BAD_STATE;
        }
        kept--;
        now.copyFrom(past[kept]);
        return kept;
    }

    // ---- text

    public int type(int code) {
        if (code < 0 || code > 255) {
            return BAD_VALUE;
        }
        if (text.size >= text.bytes.length) {
            return FULL;
        }
        text.bytes[text.size] = code;
        text.size++;
        return text.size;
    }

    public int clearText() {
        int before = text.size;
        text.size = 0;
        return before;
    }

    public int textFault() {
        return text.read(now);
    }

    public int load() {
        if (text.read(now) != NONE) {
            return BAD_STATE;
        }
        remember();
        now.copyFrom(text.draft);
        return now.count;
    }

    public long digest() {
        long h = 31L * 17 + now.count;
        for (int e = 0; e < now.count; e++) {
            h = 31 * h + now.from[e];
            h = 31 * h + now.to[e];
            h = 31 * h + now.trust[e];
            h = 31 * h + now.delay[e];
        }
        h = 31 * h + now.horizon;
        for (int node = 0; node < NODES; node++) {
            h = 31 * h + now.seen[node];
        }
        return 31 * h + now.sensors;
    }

    // ---- what the calls share

    private static boolean isNode(int node) {
        return node >= 0 && node < NODES;
    }

    private static boolean isTrust(int trust) {
        return trust >= 0 && trust <= MAX_TRUST;
    }

    private static boolean isDelay(int delay) {
        return delay >= 1 && delay <= MAX_DELAY;
    }

    private static boolean isTime(int time) {
        return time >= 0 && time <= LAST_TIME;
    }

    private static boolean isTimeOrNone(int time) {
        return time == NONE || isTime(time);
    }

    private static boolean isStart(int start) {
        return start >= 1 && start <= ALL_NODES;
    }

    private boolean isOutcome(int outcome) {
        return outcome >= 0 && outcome < 1 << now.count;
    }

    private static int timeOrNone(int time) {
        return time == NEVER ? NONE : time;
    }

    /** Keeps the present state; the oldest scene's rows serve again when the history is full. */
    private void remember() {
        if (kept >= past.length) {
            Scene oldest = past[0];
            for (int i = 1; i < past.length; i++) {
                past[i - 1] = past[i];
            }
            past[past.length - 1] = oldest;
            kept = past.length - 1;
        }
        past[kept].copyFrom(now);
        kept++;
    }

    private int replaceSeen(int node, int told) {
        remember();
        int before = now.seen[node];
        now.seen[node] = told;
        return before;
    }

    private int drawOutcome(int x) {
        int outcome = 0;
        int drawn = x;
        for (int e = 0; e < now.count; e++) {
            drawn = drawn * 1103515245 + 12345;
            if ((drawn >>> 8) % 10 < now.trust[e]) {
                outcome |= 1 << e;
            }
        }
        return outcome;
    }

    private long likelihoodOf(int start) {
        spread.wantAsSeen(now);
        spread.search(now, start, false);
        return spread.total;
    }

    private int countIfPossible(int start) {
        spread.wantAsSeen(now);
        spread.search(now, start, true);
        return spread.total > 0 ? 1 : 0;
    }

    private void findLikelihoods() {
        for (int node = 0; node < NODES; node++) {
            likelihoods[node] = likelihoodOf(1 << node);
        }
    }

    /** The rank of a candidate is the number of nodes that come before it. */
    private int rankOf(int node) {
        int before = 0;
        for (int other = 0; other < NODES; other++) {
            boolean likelier = likelihoods[other] > likelihoods[node];
            boolean equalAndLower = likelihoods[other] == likelihoods[node] && other < node;
            if (likelier || equalAndLower) {
                before++;
            }
        }
        return before;
    }

    /**
     * The whole state but the text. An edge comes in by put() alone, which looks at its nodes: so
     * from and to hold nodes only, and count is 0 to MAX_EDGES.
     */
    private static final class Scene {
        private final int[] from = new int[MAX_EDGES];
        private final int[] to = new int[MAX_EDGES];
        private final int[] trust = new int[MAX_EDGES];
        private final int[] delay = new int[MAX_EDGES];
        private int count = 0;
        private int horizon = FIRST_HORIZON;
        private final int[] seen = new int[NODES];
        private int sensors = ALL_NODES;

        private Scene() {
            for (int node = 0; node < NODES; node++) {
                seen[node] = UNOBSERVED;
            }
        }

        private void copyFrom(Scene other) {
            for (int e = 0; e < MAX_EDGES; e++) {
                from[e] = other.from[e];
                to[e] = other.to[e];
                trust[e] = other.trust[e];
                delay[e] = other.delay[e];
            }
            for (int node = 0; node < NODES; node++) {
                seen[node] = other.seen[node];
            }
            count = other.count;
            horizon = other.horizon;
            sensors = other.sensors;
        }

        private boolean hasEdge(int edge) {
            return edge >= 0 && edge < count;
        }

        private boolean isFull() {
            return count >= MAX_EDGES;
        }

        private int find(int start, int end) {
            for (int e = 0; e < count; e++) {
                if (from[e] == start && to[e] == end) {
                    return e;
                }
            }
            return NONE;
        }

        /** Adds an edge, or sets it where it is; tells its number, or NONE if it has no place. */
        private int put(int start, int end, int newTrust, int newDelay) {
            int edge = find(start, end);
            if (edge == NONE) {
                if (isFull() || !isNode(start) || !isNode(end)) {
                    return NONE;
                }
                edge = count;
                from[edge] = start;
                to[edge] = end;
                count++;
            }
            trust[edge] = newTrust;
            delay[edge] = newDelay;
            return edge;
        }

        private void drop(int edge) {
            if (!hasEdge(edge)) {
                return;
            }
            count--;
            for (int e = edge; e < count; e++) {
                from[e] = from[e + 1];
                to[e] = to[e + 1];
                trust[e] = trust[e + 1];
                delay[e] = delay[e + 1];
            }
        }
    }

    /**
     * Lets a rumour spread: by one outcome (follow), or by all of them at once (search).
     *
     * <p>The search doesn't go through all outcomes. It tells the rumour in the order of the times
     * and decides of an edge only when the rumour comes along it to a node that hasn't heard of it;
     * an edge that stays undecided changes no time, whether it works or not, so that outcomes which
     * differ in such edges alone are counted together.
     */
    private static final class Spread {
        /** When each node hears the rumour, or NEVER. */
        private final int[] times = new int[NODES];
        /** When each node is to hear it: a time, NEVER, or UNOBSERVED if it doesn't matter. */
        private final int[] wanted = new int[NODES];

        /** The weights of the outcomes found, and these times the nodes that hear by each. */
        private long total = 0;
        private long totalHeard = 0;
        private long bestWeight = 0;
        private int bestOutcome = NONE;
        /** For each node a bit for each time at which it hears by an outcome found. */
        private final long[] met = new long[NODES];
        private boolean anyWillDo = false;

        private void wantNothing() {
            for (int node = 0; node < NODES; node++) {
                wanted[node] = UNOBSERVED;
            }
        }

        private void wantOnly(int node, int told) {
            wantNothing();
            if (isNode(node)) {
                wanted[node] = told == NONE ? NEVER : told;
            }
        }

        private void wantAsSeen(Scene scene) {
            for (int node = 0; node < NODES; node++) {
                int told = scene.seen[node];
                wanted[node] = told == NONE ? NEVER : told;
            }
        }

        private void begin(int start) {
            for (int node = 0; node < NODES; node++) {
                times[node] = (start >> node & 1) == 1 ? 0 : NEVER;
            }
        }

        private void follow(Scene scene, int start, int outcome) {
            begin(start);
            // a shortest way has fewer edges than there are nodes
            for (int round = 1; round < NODES; round++) {
                for (int e = 0; e < scene.count; e++) {
                    int target = scene.to[e];
                    int arrival = (outcome >> e & 1) == 1 ? arrivalBy(scene, e) : NEVER;
                    if (isNode(target) && arrival < times[target]) {
                        times[target] = arrival;
                    }
                }
            }
        }

        /** When the rumour comes along an edge, if it works: NEVER if too late or not at all. */
        private int arrivalBy(Scene scene, int edge) {
            int source = scene.from[edge];
            if (!isNode(source) || times[source] == NEVER) {
                return NEVER;
            }
            int arrival = times[source] + scene.delay[edge];
            return arrival <= scene.horizon ? arrival : NEVER;
        }

        private boolean isAsWanted() {
            return canBeAsWanted(NEVER);
        }

        /** False if no times can be as wanted, where those yet to change will not lie before next. */
        private boolean canBeAsWanted(int next) {
            for (int node = 0; node < NODES; node++) {
                int want = wanted[node];
                if (want == UNOBSERVED) {
                    continue;
                }
                int time = times[node];
                if (time < want || time > want && next > want) {
                    return false;
                }
            }
            return true;
        }

        /** Finds the outcomes above the weight 0 whose times are as wanted, or, if any will do, one. */
        private void search(Scene scene, int start, boolean any) {
            total = 0;
            totalHeard = 0;
            bestWeight = 0;
            bestOutcome = NONE;
            anyWillDo = any;
            for (int node = 0; node < NODES; node++) {
                met[node] = 0;
            }
            begin(start);
            decide(this, scene, 0, 0, 0, 1);
        }

        /** Decides of the next edge in both ways; each level decides of one, so depth is bounded. */
        private static void decide(Spread spread, Scene scene, int depth, int decided, int works,
                long weight) {
            if (depth > MAX_EDGES || spread.anyWillDo && spread.total > 0) {
                return;
            }
            int edge = spread.nextEdge(scene, decided);
            int arrival = edge == NONE ? NEVER : spread.arrivalBy(scene, edge);
            if (!spread.canBeAsWanted(arrival)) {
                return;
            }
            if (edge == NONE) {
                spread.collect(scene, decided, works, weight);
                return;
            }
            int target = scene.to[edge];
            int trust = scene.trust[edge];
            int all = decided | 1 << edge;
            if (trust > 0 && isNode(target)) {
                spread.times[target] = arrival;
                decide(spread, scene, depth + 1, all, works | 1 << edge, weight * trust);
                spread.times[target] = NEVER;
            }
            if (trust < MAX_TRUST) {
                decide(spread, scene, depth + 1, all, works, weight * (MAX_TRUST - trust));
            }
        }

        /** The undecided edge by which a node that hasn't heard the rumour could hear it first. */
        private int nextEdge(Scene scene, int decided) {
            int next = NONE;
            int least = NEVER;
            for (int e = 0; e < scene.count; e++) {
                int target = scene.to[e];
                boolean undecided = (decided >> e & 1) == 0;
                if (!undecided || !isNode(target) || times[target] != NEVER) {
                    continue;
                }
                int arrival = arrivalBy(scene, e);
                if (arrival < least) {
                    least = arrival;
                    next = e;
                }
            }
            return next;
        }

        /** Counts all outcomes that agree with the decided edges: they all have these times. */
        private void collect(Scene scene, int decided, int works, long weight) {
            long sum = weight;
            long greatest = weight;
            int outcome = works;
            for (int e = 0; e < scene.count; e++) {
                if ((decided >> e & 1) == 1) {
                    continue;
                }
                int trust = scene.trust[e];
                boolean ratherWorks = trust > MAX_TRUST - trust;
                sum *= MAX_TRUST;
                greatest *= ratherWorks ? trust : MAX_TRUST - trust;
                outcome |= ratherWorks ? 1 << e : 0;
            }
            total += sum;
            keepBest(greatest, outcome);
            for (int node = 0; node < NODES; node++) {
                met[node] |= 1L << times[node];
                totalHeard += times[node] == NEVER ? 0 : sum;
            }
        }

        private void keepBest(long weight, int outcome) {
            if (weight > bestWeight || weight == bestWeight && outcome < bestOutcome) {
                bestWeight = weight;
                bestOutcome = outcome;
            }
        }
    }

    /** The text, and the reading of it: its items change a draft, which load() takes over. */
    private static final class Text {
        private final int[] bytes = new int[MAX_TEXT];
        private int size = 0;
        private final Scene draft = new Scene();
        private int at = 0;
        private int fault = NONE;

        /** Reads the whole text on top of a scene; answers its fault, or NONE. */
        private int read(Scene scene) {
            draft.copyFrom(scene);
            at = 0;
            fault = NONE;
            boolean more = true;
            for (int item = 0; more && item < MAX_TEXT; item++) {
                more = readItem() && readSemicolon();
            }
            return fault;
        }

        private boolean readItem() {
            int node = nextNode();
            if (node == NONE) {
                return refuse();
            }
            at++;
            int sign = nextByte();
            if (sign != '>' && sign != '=') {
                return refuse();
            }
            at++;
            return sign == '>' ? readEdge(node) : readObservation(node);
        }

        /** True if another item has to follow. */
        private boolean readSemicolon() {
            int sign = nextByte();
            if (sign == NONE) {
                return false;
            }
            return accept(';');
        }

        private boolean readEdge(int from) {
            int to = nextNode();
            boolean noPlace = draft.isFull() && draft.find(from, to) == NONE;
            if (to == NONE || to == from || noPlace) {
                return refuse();
            }
            at++;
            if (!accept('*')) {
                return false;
            }
            int trust = readNumber(0, MAX_TRUST);
            if (trust == NONE || !accept('+')) {
                return false;
            }
            int delay = readNumber(1, MAX_DELAY);
            if (delay == NONE) {
                return false;
            }
            return draft.put(from, to, trust, delay) != NONE;
        }

        private boolean readObservation(int node) {
            if (nextByte() == '-') {
                at++;
                draft.seen[node] = NONE;
                return true;
            }
            int time = readNumber(0, LAST_TIME);
            if (time == NONE) {
                return false;
            }
            draft.seen[node] = time;
            return true;
        }

        /** Reads a number; NONE if it is refused, with the fault at its first digit. */
        private int readNumber(int least, int most) {
            nextByte();
            int first = at;
            int value = 0;
            while (at < size && bytes[at] >= '0' && bytes[at] <= '9') {
                value = value * 10 + (bytes[at] - '0');
                at++;
            }
            int digits = at - first;
            if (digits < 1 || digits > MAX_DIGITS || value < least || value > most) {
                at = first;
                refuse();
                return NONE;
            }
            return value;
        }

        /** Goes to the next byte that is no blank; tells it, or NONE at the text's end. */
        private int nextByte() {
            while (at < size && bytes[at] == BLANK) {
                at++;
            }
            return at < size ? bytes[at] : NONE;
        }

        /** Goes to the next byte that is no blank; tells the node that it names, or NONE. */
        private int nextNode() {
            int node = nextByte() - '0';
            return isNode(node) ? node : NONE;
        }

        private boolean accept(int sign) {
            if (nextByte() != sign) {
                return refuse();
            }
            at++;
            return true;
        }

        private boolean refuse() {
            fault = at;
            return false;
        }
    }
}
