/** Graphs of actors that fire by fixed rates: REPETITIONS, THE SCHEDULE, PEAKS, NESTED ROOM and the run on numbers. */
public final class RateGraph {
    public static final int DONE = 0;
    public static final int REFUSED = -1;
    public static final int FULL = -2;
    public static final int BIG = -3;
    public static final int STATE = -4;
    public static final int INCONSISTENT = -100;
    public static final int DEADLOCK = -200;
    public static final long NONE = -1000000000000L;

    private static final int MOST_ACTORS = 8;
    private static final int MOST_EDGES = 12;
    private static final int MOST_KIND = 3;
    private static final int MOST_RATE = 6;
    private static final int MOST_DELAY = 12;
    private static final int MOST_POLICY = 2;
    private static final int MOST_PERIODS = 8;
    private static final int MOST_FIRINGS = 64;
    private static final int NOBODY = -1;

    private static final int FEWEST_TOKENS = 1;
    private static final int KEEP_ON = 2;

    /** An actor with what the last balance, schedule and run made of it. */
    private static final class Actor {
        private boolean there;
        private int kind;
        private int parameter;
        private int part;
        // At most 6 to the 7th: each of at most seven joins of PARTS brings a factor of at most 6.
        private int share;
        private int repetitions;
        private int fired;
        private int formerX;
        private int sumOfX;
        private int latest;

        private void forgetRun() {
            formerX = 0;
            sumOfX = 0;
            latest = 0;
        }

        private boolean isDue() {
            return there && fired < repetitions;
        }

        private int answerTo(int x) {
            sumOfX += x;
            int difference = x - formerX;
            formerX = x;
            switch (kind) {
                case 0:
                    return parameter + x;
                case 1:
                    return parameter * x;
                case 2:
                    return sumOfX;
                default:
                    return difference;
            }
        }
    }

    /** An edge with the tokens on it, which stand in a ring. */
    private static final class Edge {
        // A period puts rate in * first's = rate out * second's REPETITIONS on it, and the lesser of two numbers
        // with a sum of at most 64 is at most 32: never more than 12 + 6 * 32 = 204 tokens. A power of two, for the mask.
        private static final int ROOM = 256;

        private final int[] ring = new int[ROOM];
        private int from;
        private int to;
        private int in;
        private int out;
        private int delay;
        private int start;
        private int held;
        private int most;

        private boolean isLoop() {
            return from == to;
        }

        private void setAsAtFirst() {
            for (int i = 0; i < delay; i++) {
                ring[i & (ROOM - 1)] = 0;
            }
            start = 0;
            held = delay;
        }

        private int at(int i) {
            return ring[(start + i) & (ROOM - 1)];
        }

        private int takeWeighed() {
            int sum = 0;
            for (int i = 0; i < out; i++) {
                sum += at(i) * (i + 1);
            }
            start = (start + out) & (ROOM - 1);
            held -= out;
            return sum;
        }

        private void putFrom(int y) {
            for (int j = 0; j < in; j++) {
                ring[(start + held + j) & (ROOM - 1)] = y + j;
            }
            held += in;
        }
    }

    private final Actor[] actors = new Actor[MOST_ACTORS];
    private final Edge[] edges = new Edge[MOST_EDGES];
    private final int[] order = new int[MOST_ACTORS];
    private final int[][] cost = new int[MOST_ACTORS][MOST_ACTORS];
    private final int[] firingOrder = new int[MOST_FIRINGS];
    private int edgeCount;
    private int length;
    private int firings;
    private boolean solved;

    public RateGraph() {
        for (int a = 0; a < MOST_ACTORS; a++) {
            actors[a] = new Actor();
        }
        for (int e = 0; e < MOST_EDGES; e++) {
            edges[e] = new Edge();
        }
    }

    public int actor(int a, int kind, int parameter) {
        if (!isWithin(a, 0, MOST_ACTORS - 1) || !isWithin(kind, 0, MOST_KIND)) {
            return REFUSED;
        }
        Actor actor = actors[a];
        actor.there = true;
        actor.kind = kind;
        actor.parameter = parameter;
        solved = false;
        return DONE;
    }

    public int edge(int from, int to, int in, int out, int delay) {
        if (!isActor(from) || !isActor(to)) {
            return REFUSED;
        }
        if (!isWithin(in, 1, MOST_RATE) || !isWithin(out, 1, MOST_RATE) || !isWithin(delay, 0, MOST_DELAY)) {
            return REFUSED;
        }
        if (edgeCount >= MOST_EDGES) {
            return FULL;
        }
        Edge edge = edges[edgeCount];
        edge.from = from;
        edge.to = to;
        edge.in = in;
        edge.out = out;
        edge.delay = delay;
        solved = false;
        edgeCount++;
        return edgeCount - 1;
    }

    public int unedge(int e) {
        if (!isEdge(e)) {
            return REFUSED;
        }
        // The removed object goes to the end, where the next new edge uses it again.
        Edge removed = edges[e];
        for (int i = e; i < edgeCount - 1; i++) {
            edges[i] = edges[i + 1];
        }
        edges[edgeCount - 1] = removed;
        edgeCount--;
        solved = false;
        return edgeCount;
    }

    public int solve(int policy) {
        if (!isWithin(policy, 0, MOST_POLICY)) {
            return REFUSED;
        }
        if (countActors() == 0) {
            return STATE;
        }
        solved = false;
        int culprit = findCulprit();
        if (culprit != NOBODY) {
            return INCONSISTENT - culprit;
        }
        int sum = keepRepetitions();
        if (sum > MOST_FIRINGS) {
            return BIG;
        }
        length = sum;
        int stuck = makeSchedule(policy);
        if (stuck != NOBODY) {
            return DEADLOCK - stuck;
        }
        setRunAsAtFirst();
        solved = true;
        return length;
    }

    public int run(int periods) {
        if (!isWithin(periods, 1, MOST_PERIODS)) {
            return REFUSED;
        }
        if (!solved) {
            return STATE;
        }
        for (int period = 0; period < periods; period++) {
            for (int place = 0; place < length; place++) {
                fire(firingOrder[place]);
            }
        }
        firings += periods * length;
        return periods * length;
    }

    public int repetitions(int a) {
        if (!isActor(a)) {
            return REFUSED;
        }
        return solved ? actors[a].repetitions : STATE;
    }

    public int schedule(int i) {
        if (!solved) {
            return STATE;
        }
        return isWithin(i, 0, length - 1) ? firingOrder[i] : REFUSED;
    }

    public int peak(int e) {
        if (!isEdge(e)) {
            return REFUSED;
        }
        return solved ? edges[e].most : STATE;
    }

    public int nested() {
        if (!solved || !canNest()) {
            return STATE;
        }
        return nestedRoom();
    }

    public long latest(int a) {
        return solved && isActor(a) ? actors[a].latest : NONE;
    }

    public long token(int e, int i) {
        if (!solved || !isEdge(e)) {
            return NONE;
        }
        Edge edge = edges[e];
        return isWithin(i, 0, edge.held - 1) ? edge.at(i) : NONE;
    }

    public int tokens(int e) {
        if (!isEdge(e)) {
            return REFUSED;
        }
        return solved ? edges[e].held : STATE;
    }

    public int count(int what) {
        switch (what) {
            case 0:
                return countActors();
            case 1:
                return edgeCount;
            case 2:
                return countParts();
            case 3:
                return solved ? 1 : 0;
            case 4:
                return solved ? length : 0;
            case 5:
                return solved ? countRuns() : 0;
            case 6:
                return solved ? sumOfPeaks() : 0;
            case 7:
                return solved ? firings : 0;
            case 8:
                return solved ? sumOfTokens() : 0;
            default:
                return REFUSED;
        }
    }

    private static boolean isWithin(int number, int least, int greatest) {
        return number >= least && number <= greatest;
    }

    private boolean isActor(int a) {
        return isWithin(a, 0, MOST_ACTORS - 1) && actors[a].there;
    }

    private boolean isEdge(int e) {
        return isWithin(e, 0, edgeCount - 1);
    }

    // Euclid on ints needs fewer than 64 steps; the answer is at least 1, so that it can divide.
    private static int greatestDivisor(int first, int second) {
        int a = first;
        int b = second;
        for (int step = 0; step < 64 && b != 0; step++) {
            int rest = a % b;
            a = b;
            b = rest;
        }
        return Math.max(a, 1);
    }

    private int countActors() {
        int sum = 0;
        for (int a = 0; a < MOST_ACTORS; a++) {
            if (actors[a].there) {
                sum++;
            }
        }
        return sum;
    }

    private int countParts() {
        makePartsOfOne();
        int parts = countActors();
        for (int e = 0; e < edgeCount; e++) {
            int first = actors[edges[e].from].part;
            int second = actors[edges[e].to].part;
            if (first != second) {
                joinParts(first, second);
                parts--;
            }
        }
        return parts;
    }

    private int countRuns() {
        int runs = 0;
        for (int place = 0; place < length; place++) {
            if (place == 0 || firingOrder[place] != firingOrder[place - 1]) {
                runs++;
            }
        }
        return runs;
    }

    private int sumOfPeaks() {
        int sum = 0;
        for (int e = 0; e < edgeCount; e++) {
            sum += edges[e].most;
        }
        return sum;
    }

    private int sumOfTokens() {
        int sum = 0;
        for (int e = 0; e < edgeCount; e++) {
            sum += edges[e].held;
        }
        return sum;
    }

    private void makePartsOfOne() {
        for (int a = 0; a < MOST_ACTORS; a++) {
            actors[a].part = a;
            actors[a].share = 1;
        }
    }

    private void joinParts(int kept, int lost) {
        for (int a = 0; a < MOST_ACTORS; a++) {
            if (actors[a].part == lost) {
                actors[a].part = kept;
            }
        }
    }

    private void scalePart(int part, int factor) {
        for (int a = 0; a < MOST_ACTORS; a++) {
            if (actors[a].part == part) {
                actors[a].share *= factor;
            }
        }
    }

    /** The CULPRIT or NOBODY; in the second case the shares are the REPETITIONS. */
    private int findCulprit() {
        makePartsOfOne();
        for (int e = 0; e < edgeCount; e++) {
            if (!balance(edges[e])) {
                return e;
            }
        }
        return NOBODY;
    }

    // Within each PART the shares have no common divisor, and the two factors have none either:
    // so the shares of the joined PART are its least ones again.
    private boolean balance(Edge edge) {
        Actor first = actors[edge.from];
        Actor second = actors[edge.to];
        int put = edge.in * first.share;
        int taken = edge.out * second.share;
        if (first.part == second.part) {
            return put == taken;
        }
        int divisor = greatestDivisor(put, taken);
        scalePart(first.part, taken / divisor);
        scalePart(second.part, put / divisor);
        joinParts(first.part, second.part);
        return true;
    }

    private int keepRepetitions() {
        int sum = 0;
        for (int a = 0; a < MOST_ACTORS; a++) {
            Actor actor = actors[a];
            actor.repetitions = actor.there ? actor.share : 0;
            sum += actor.repetitions;
        }
        return sum;
    }

    /** Writes THE SCHEDULE and the PEAKS; answers the actor that a DEADLOCK names, or NOBODY. */
    private int makeSchedule(int policy) {
        for (int a = 0; a < MOST_ACTORS; a++) {
            actors[a].fired = 0;
        }
        for (int e = 0; e < edgeCount; e++) {
            edges[e].held = edges[e].delay;
            edges[e].most = edges[e].delay;
        }
        int last = 0;
        for (int place = 0; place < length; place++) {
            int chosen = choose(policy, last);
            if (chosen == NOBODY) {
                return leastDue();
            }
            fireCounting(chosen);
            firingOrder[place] = chosen;
            last = chosen;
        }
        return NOBODY;
    }

    private int choose(int policy, int last) {
        if (policy == FEWEST_TOKENS) {
            return chooseFewestTokens();
        }
        return chooseFrom(policy == KEEP_ON ? last : 0);
    }

    private int chooseFrom(int start) {
        for (int step = 0; step < MOST_ACTORS; step++) {
            int a = (start + step) % MOST_ACTORS;
            if (canFire(a)) {
                return a;
            }
        }
        return NOBODY;
    }

    private int chooseFewestTokens() {
        int chosen = NOBODY;
        int fewest = 0;
        for (int a = 0; a < MOST_ACTORS; a++) {
            if (canFire(a)) {
                int more = tokensWonBy(a);
                if (chosen == NOBODY || more < fewest) {
                    chosen = a;
                    fewest = more;
                }
            }
        }
        return chosen;
    }

    private int tokensWonBy(int a) {
        int more = 0;
        for (int e = 0; e < edgeCount; e++) {
            Edge edge = edges[e];
            if (edge.from == a) {
                more += edge.in;
            }
            if (edge.to == a) {
                more -= edge.out;
            }
        }
        return more;
    }

    private boolean canFire(int a) {
        return actors[a].isDue() && isReady(a);
    }

    private boolean isReady(int a) {
        for (int e = 0; e < edgeCount; e++) {
            Edge edge = edges[e];
            if (edge.to == a && edge.held < edge.out) {
                return false;
            }
        }
        return true;
    }

    private int leastDue() {
        for (int a = 0; a < MOST_ACTORS; a++) {
            if (actors[a].isDue()) {
                return a;
            }
        }
        return NOBODY;
    }

    private void fireCounting(int a) {
        for (int e = 0; e < edgeCount; e++) {
            Edge edge = edges[e];
            if (edge.to == a) {
                edge.held -= edge.out;
            }
            if (edge.from == a) {
                edge.held += edge.in;
            }
            edge.most = Math.max(edge.most, edge.held);
        }
        actors[a].fired++;
    }

    private void setRunAsAtFirst() {
        for (int a = 0; a < MOST_ACTORS; a++) {
            actors[a].forgetRun();
        }
        for (int e = 0; e < edgeCount; e++) {
            edges[e].setAsAtFirst();
        }
        firings = 0;
    }

    private void fire(int a) {
        int x = 0;
        for (int e = 0; e < edgeCount; e++) {
            if (edges[e].to == a) {
                x += edges[e].takeWeighed();
            }
        }
        int y = actors[a].answerTo(x);
        actors[a].latest = y;
        for (int e = 0; e < edgeCount; e++) {
            if (edges[e].from == a) {
                edges[e].putFrom(y);
            }
        }
    }

    private boolean canNest() {
        for (int e = 0; e < edgeCount; e++) {
            Edge edge = edges[e];
            boolean forward = edge.from < edge.to && edge.delay == 0;
            if (!forward && !edge.isLoop()) {
                return false;
            }
        }
        return true;
    }

    private int listActors() {
        int listed = 0;
        for (int a = 0; a < MOST_ACTORS; a++) {
            if (actors[a].there) {
                order[listed] = a;
                listed++;
            }
        }
        return listed;
    }

    private int nestedRoom() {
        int listed = listActors();
        for (int i = 0; i < listed; i++) {
            cost[i][i] = 0;
        }
        for (int width = 2; width <= listed; width++) {
            for (int i = 0; i + width <= listed; i++) {
                cost[i][i + width - 1] = costOfStretch(i, i + width - 1);
            }
        }
        return listed == 0 ? 0 : cost[0][listed - 1];
    }

    private int costOfStretch(int i, int j) {
        int divisor = divisorOfStretch(i, j);
        int least = 0;
        for (int cut = i; cut < j; cut++) {
            int crossing = tokensAcross(order[i], order[cut], order[j]) / divisor;
            int sum = cost[i][cut] + cost[cut + 1][j] + crossing;
            least = cut == i ? sum : Math.min(least, sum);
        }
        return least;
    }

    private int divisorOfStretch(int i, int j) {
        int divisor = 0;
        for (int place = i; place <= j; place++) {
            divisor = greatestDivisor(divisor, actors[order[place]].repetitions);
        }
        return Math.max(divisor, 1);
    }

    private int tokensAcross(int least, int cut, int greatest) {
        int sum = 0;
        for (int e = 0; e < edgeCount; e++) {
            Edge edge = edges[e];
            if (isWithin(edge.from, least, cut) && isWithin(edge.to, cut + 1, greatest)) {
                sum += edge.in * actors[edge.from].repetitions;
            }
        }
        return sum;
    }
}
