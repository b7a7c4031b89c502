import java.util.ArrayDeque;

/** The sentences of the promises 6 and 11 to 13, and "All wraps", that name a bound: each is told above its test. */
public final class RunningBoundsTest {
    private static final int LEAST = Integer.MIN_VALUE;
    private static final int GREATEST = Integer.MAX_VALUE;
    private static final int[] NUMBERS = {LEAST, -1, 0, 1, 2, 3, 4, 5, 6, 7, 8, 9, 10, 11, 12, 13, GREATEST};
    private static final Check check = new Check();

    public static void main(String[] args) {
        periods();
        periodsAreTestedFirst();
        firingsOfTheShortestAndTheLongestRun();
        runGoesOnFromWhereItStands();
        latestOfActors();
        latestIsZeroBeforeTheFirstFiring();
        nothingToTakeGivesXZero();
        formerXIsZeroBeforeTheFirstFiring();
        tokenOfEdgesAndPlaces();
        tokensOfEdges();
        tokensThatNobodyTookStay();
        sumWithTheParameterWraps();
        productWithTheParameterWraps();
        weightedTokenWraps();
        sumOverTheTokensOfAnEdgeWraps();
        sumOverTheEdgesWraps();
        sumOfAllFiringsWraps();
        differenceWraps();
        tokensPutWrap();
        tokensGoAroundForALongTime();
        theLastCallStillAnswers();
        check.end();
    }

    /** "so many times (1 .. 8, else REFUSED)", and "Answers how many firings there were." */
    private static void periods() {
        for (int periods : NUMBERS) {
            RateGraph graph = Graphs.full();
            graph.solve(0);
            boolean good = periods >= 1 && periods <= 8;
            check.due("run(" + periods + ")", graph.run(periods), good ? 8 * periods : RateGraph.REFUSED);
            check.due("firings after run(" + periods + ")", graph.count(7), good ? 8 * periods : 0);
            // Actor 0 of the full graph adds 1 to the one token of its own loop.
            check.due("latest after run(" + periods + ")", graph.latest(0), good ? periods : 0);
        }
    }

    /** "Numbers are tested first": before "Not SOLVED: STATE". */
    private static void periodsAreTestedFirst() {
        RateGraph[] graphs = {new RateGraph(), Graphs.full()};
        for (RateGraph graph : graphs) {
            for (int periods : NUMBERS) {
                boolean good = periods >= 1 && periods <= 8;
                check.due("not SOLVED: run(" + periods + ")", graph.run(periods), good ? RateGraph.STATE : RateGraph.REFUSED);
            }
        }
    }

    /** "Answers how many firings there were.": the fewest and the most. */
    private static void firingsOfTheShortestAndTheLongestRun() {
        RateGraph one = Graphs.withActors(7);
        one.solve(0);
        check.due("one firing", one.run(1), 1);
        RateGraph most = Graphs.withSumOf61And(3);
        most.solve(0);
        check.due("8 times 64 firings", most.run(8), 512);
        check.due("8 times 64 firings again", most.run(8), 512);
        check.due("all of them", most.count(7), 1024);
    }

    /** "Runs THE SCHEDULE so many times from where it stands." */
    private static void runGoesOnFromWhereItStands() {
        RateGraph once = Graphs.full();
        once.solve(1);
        once.run(8);
        RateGraph eightTimes = Graphs.full();
        eightTimes.solve(1);
        for (int i = 0; i < 8; i++) {
            eightTimes.run(1);
        }
        check.dueText("run(1) eight times", Answers.of(eightTimes), Answers.of(once));
    }

    /** "The actor's LATEST; NONE if it isn't there or not SOLVED." */
    private static void latestOfActors() {
        RateGraph graph = Graphs.withActors(0, 4, 7);
        for (int a : NUMBERS) {
            check.due("not SOLVED: latest(" + a + ")", graph.latest(a), RateGraph.NONE);
        }
        graph.solve(0);
        graph.run(1);
        for (int a : NUMBERS) {
            boolean there = a == 0 || a == 4 || a == 7;
            check.due("latest(" + a + ")", graph.latest(a), there ? 1 : RateGraph.NONE);
        }
        graph.actor(4, 0, 1);
        check.due("latest(0) after a change", graph.latest(0), RateGraph.NONE);
        graph.solve(0);
        check.due("latest(0) after solve anew", graph.latest(0), 0);
    }

    /** "Then it can be run: LATEST 0, no firings" */
    private static void latestIsZeroBeforeTheFirstFiring() {
        for (int kind = 0; kind <= 3; kind++) {
            RateGraph graph = new RateGraph();
            graph.actor(3, kind, 99);
            graph.solve(0);
            check.due("latest of kind " + kind + " before a run", graph.latest(3), 0);
            check.due("firings before a run", graph.count(7), 0);
        }
    }

    /** X is a sum over no edges: "0 PARAMETER + X; 1 PARAMETER * X; 2 the sum of X ..; 3 X less .." */
    private static void nothingToTakeGivesXZero() {
        int[] want = {99, 0, 0, 0};
        for (int kind = 0; kind <= 3; kind++) {
            RateGraph graph = new RateGraph();
            graph.actor(3, kind, 99);
            graph.solve(0);
            graph.run(8);
            check.due("latest of kind " + kind + " without edges", graph.latest(3), want[kind]);
        }
    }

    /** "3 X less the X of its former firing (0 before the first one)", and after a new solve again. */
    private static void formerXIsZeroBeforeTheFirstFiring() {
        RateGraph graph = new RateGraph();
        graph.actor(0, 0, 7);
        graph.actor(1, 3, 99);
        graph.actor(2, 2, 99);
        graph.edge(0, 1, 1, 1, 0);
        graph.edge(0, 2, 1, 1, 0);
        for (int time = 0; time < 2; time++) {
            graph.solve(0);
            graph.run(1);
            check.due("first difference", graph.latest(1), 7);
            check.due("first sum", graph.latest(2), 7);
            graph.run(1);
            check.due("second difference", graph.latest(1), 0);
            check.due("second sum", graph.latest(2), 14);
        }
        graph.actor(2, 2, 99);
        graph.solve(0);
        graph.run(1);
        check.due("first difference after a change", graph.latest(1), 7);
        check.due("first sum after a change", graph.latest(2), 7);
    }

    /** "Token i (from 0, the one to be taken first) on edge e ..; NONE if there is none or not SOLVED." */
    private static void tokenOfEdgesAndPlaces() {
        int[] counts = {0, 1, 12};
        for (int edges : counts) {
            RateGraph graph = Graphs.withEdges(edges);
            check.due(edges + " edges, not SOLVED: token(0, 0)", graph.token(0, 0), RateGraph.NONE);
            check.due(edges + " edges, not SOLVED: token(11, 0)", graph.token(11, 0), RateGraph.NONE);
            graph.solve(0);
            for (int e : NUMBERS) {
                boolean there = e >= 0 && e < edges;
                String title = edges + " edges: token of " + e + " at ";
                check.due(title + "the least int", graph.token(e, LEAST), RateGraph.NONE);
                check.due(title + "-1", graph.token(e, -1), RateGraph.NONE);
                check.due(title + "0", graph.token(e, 0), there ? 0 : RateGraph.NONE);
                int last = there ? e : 0;
                check.due(title + "its last place", graph.token(e, last), there ? 0 : RateGraph.NONE);
                check.due(title + "one too far", graph.token(e, last + 1), RateGraph.NONE);
                check.due(title + "the greatest int", graph.token(e, GREATEST), RateGraph.NONE);
            }
        }
        RateGraph none = Graphs.withActors(0, 1);
        none.edge(0, 1, 1, 1, 0);
        none.solve(0);
        check.due("token of an edge without tokens", none.token(0, 0), RateGraph.NONE);
        none.run(1);
        check.due("token of an edge whose tokens are taken", none.token(0, 0), RateGraph.NONE);
    }

    /** "Tokens on edge e as it stands in the run; no such edge: REFUSED; not SOLVED: STATE." */
    private static void tokensOfEdges() {
        int[] counts = {0, 1, 12};
        for (int edges : counts) {
            RateGraph graph = Graphs.withEdges(edges);
            for (int e : NUMBERS) {
                boolean there = e >= 0 && e < edges;
                check.due(edges + " edges, not SOLVED: tokens(" + e + ")", graph.tokens(e),
                    there ? RateGraph.STATE : RateGraph.REFUSED);
            }
            graph.solve(0);
            graph.run(1);
            for (int e : NUMBERS) {
                boolean there = e >= 0 && e < edges;
                check.due(edges + " edges: tokens(" + e + ")", graph.tokens(e), there ? e + 1 : RateGraph.REFUSED);
            }
        }
    }

    /** "as it stands in the run", and "taken in the order in which they were put" */
    private static void tokensThatNobodyTookStay() {
        RateGraph graph = new RateGraph();
        graph.actor(0, 0, 50);
        graph.actor(1, 0, 0);
        graph.edge(0, 1, 3, 3, 4);
        graph.solve(0);
        graph.run(1);
        int[] first = {0, 50, 51, 52};
        for (int i = 0; i < 4; i++) {
            check.due("after one: token(0, " + i + ")", graph.token(0, i), first[i]);
        }
        check.due("X of 0 0 0", graph.latest(1), 0);
        graph.run(1);
        int[] second = {52, 50, 51, 52};
        for (int i = 0; i < 4; i++) {
            check.due("after two: token(0, " + i + ")", graph.token(0, i), second[i]);
        }
        check.due("X of 0 50 51", graph.latest(1), 2 * 50 + 3 * 51);
        check.due("no fifth token", graph.token(0, 4), RateGraph.NONE);
    }

    /** Actor 0 puts the number and those after it; actor 1 takes as many. */
    private static RateGraph sending(int number, int rate, int kind, int parameter) {
        RateGraph graph = new RateGraph();
        graph.actor(0, 0, number);
        graph.actor(1, kind, parameter);
        graph.edge(0, 1, rate, rate, 0);
        graph.solve(0);
        return graph;
    }

    private static long latestAfterOneRun(RateGraph graph) {
        graph.run(1);
        return graph.latest(1);
    }

    /** "All wraps": "0 PARAMETER + X" */
    private static void sumWithTheParameterWraps() {
        check.due("greatest + 1", latestAfterOneRun(sending(1, 1, 0, GREATEST)), LEAST);
        check.due("greatest + greatest", latestAfterOneRun(sending(GREATEST, 1, 0, GREATEST)), -2);
        check.due("least - 1", latestAfterOneRun(sending(-1, 1, 0, LEAST)), GREATEST);
        check.due("least + least", latestAfterOneRun(sending(LEAST, 1, 0, LEAST)), 0);
        check.due("greatest + 0", latestAfterOneRun(sending(0, 1, 0, GREATEST)), GREATEST);
        check.due("least + 0", latestAfterOneRun(sending(0, 1, 0, LEAST)), LEAST);
    }

    /** "All wraps": "1 PARAMETER * X" */
    private static void productWithTheParameterWraps() {
        check.due("greatest * greatest", latestAfterOneRun(sending(GREATEST, 1, 1, GREATEST)), 1);
        check.due("least * -1", latestAfterOneRun(sending(LEAST, 1, 1, -1)), LEAST);
        check.due("least * least", latestAfterOneRun(sending(LEAST, 1, 1, LEAST)), 0);
        check.due("65536 * 32768", latestAfterOneRun(sending(65536, 1, 1, 32768)), LEAST);
        check.due("65536 * 65536", latestAfterOneRun(sending(65536, 1, 1, 65536)), 0);
        check.due("46341 * 46341", latestAfterOneRun(sending(46341, 1, 1, 46341)), -2147479015L);
    }

    /** "All wraps": "the first one times 1, the second one times 2, and so on" */
    private static void weightedTokenWraps() {
        // Times 1, 2 and 3 they are 2147483646, -2 and the least int.
        check.due("three weights at the bound", latestAfterOneRun(sending(GREATEST - 1, 3, 0, 0)), -4);
        // Twice 2 to the 30th and 1 is just too much for an int.
        check.due("the second weight", latestAfterOneRun(sending(1 << 30, 2, 0, -(1 << 30))), -2147483646L);
    }

    /** "All wraps": "X is the sum .. over the tokens it takes from each" */
    private static void sumOverTheTokensOfAnEdgeWraps() {
        // 715827882 + 2 * 715827883 is the greatest int and 1.
        check.due("two tokens", latestAfterOneRun(sending(715827882, 2, 0, 0)), LEAST);
        check.due("two tokens that just fit", latestAfterOneRun(sending(715827881, 2, 0, 0)), 2147483645L);
    }

    /** "All wraps": "X is the sum over the edges to it" */
    private static void sumOverTheEdgesWraps() {
        RateGraph graph = new RateGraph();
        graph.actor(0, 0, GREATEST);
        graph.actor(1, 0, 0);
        for (int e = 0; e < 12; e++) {
            graph.edge(0, 1, 1, 1, 0);
        }
        graph.solve(0);
        check.due("twelve times the greatest", latestAfterOneRun(graph), -12);
        graph.actor(0, 0, LEAST);
        graph.unedge(11);
        graph.solve(0);
        check.due("eleven times the least", latestAfterOneRun(graph), LEAST);
    }

    /** "All wraps": "2 the sum of X and all X of its former firings" */
    private static void sumOfAllFiringsWraps() {
        RateGraph graph = sending(GREATEST, 1, 2, 0);
        long[] want = {GREATEST, -2, 2147483645L, -4, 2147483643L};
        for (int time = 0; time < want.length; time++) {
            check.due("sum " + time, latestAfterOneRun(graph), want[time]);
        }
        RateGraph down = sending(LEAST, 1, 2, 0);
        check.due("least", latestAfterOneRun(down), LEAST);
        check.due("least + least", latestAfterOneRun(down), 0);
        check.due("least again", latestAfterOneRun(down), LEAST);
    }

    /** "All wraps": "3 X less the X of its former firing" */
    private static void differenceWraps() {
        RateGraph up = new RateGraph();
        up.actor(0, 0, GREATEST);
        up.actor(1, 3, 0);
        up.edge(0, 1, 2, 1, 0);
        up.solve(0);
        check.due("least less greatest", latestAfterOneRun(up), 1);
        check.due("least less greatest again", latestAfterOneRun(up), 1);

        RateGraph from = new RateGraph();
        from.actor(0, 0, LEAST);
        from.actor(1, 3, 0);
        from.edge(0, 1, 1, 1, 1);
        from.solve(0);
        check.due("0 less 0", latestAfterOneRun(from), 0);
        check.due("least less 0", latestAfterOneRun(from), LEAST);
        check.due("least less least", latestAfterOneRun(from), 0);
    }

    /** "All wraps": "Token j (from 0) that it puts on an edge is Y + j." */
    private static void tokensPutWrap() {
        RateGraph graph = new RateGraph();
        graph.actor(0, 0, GREATEST - 2);
        graph.actor(1, 0, 0);
        graph.edge(0, 1, 6, 6, 6);
        graph.solve(0);
        graph.run(1);
        long[] want = {2147483645L, 2147483646L, 2147483647L, -2147483648L, -2147483647L, -2147483646L};
        for (int j = 0; j < 6; j++) {
            check.due("token " + j + " over the bound", graph.token(0, j), want[j]);
        }
        check.due("no token more", graph.token(0, 6), RateGraph.NONE);
        check.due("LATEST is Y itself", graph.latest(0), 2147483645L);
    }

    /** "taken in the order in which they were put": loops and an edge that never get empty, against queues. */
    private static void tokensGoAroundForALongTime() {
        RateGraph graph = new RateGraph();
        graph.actor(0, 2, 0);
        graph.actor(1, 3, 0);
        graph.actor(2, 0, 3);
        graph.edge(2, 0, 1, 1, 0);
        graph.edge(0, 1, 5, 5, 12);
        graph.edge(1, 1, 6, 6, 11);
        graph.solve(0);
        ArrayDeque<Integer> between = zeros(12);
        ArrayDeque<Integer> own = zeros(11);
        int sum = 0;
        int former = 0;
        int y = 0;
        for (int time = 0; time < 400; time++) {
            graph.run(1);
            sum += 3;
            put(between, sum, 5);
            int x = takeWeighed(between, 5) + takeWeighed(own, 6);
            y = x - former;
            former = x;
            put(own, y, 6);
        }
        check.due("sum after 400 periods", graph.latest(0), sum);
        check.due("difference after 400 periods", graph.latest(1), y);
        int i = 0;
        for (int token : between) {
            check.due("between: token(1, " + i + ")", graph.token(1, i), token);
            i++;
        }
        check.due("between: tokens", graph.tokens(1), i);
        i = 0;
        for (int token : own) {
            check.due("own: token(2, " + i + ")", graph.token(2, i), token);
            i++;
        }
        check.due("own: tokens", graph.tokens(2), i);
    }

    private static ArrayDeque<Integer> zeros(int number) {
        ArrayDeque<Integer> queue = new ArrayDeque<>();
        for (int i = 0; i < number; i++) {
            queue.add(0);
        }
        return queue;
    }

    private static void put(ArrayDeque<Integer> queue, int y, int rate) {
        for (int j = 0; j < rate; j++) {
            queue.add(y + j);
        }
    }

    private static int takeWeighed(ArrayDeque<Integer> queue, int rate) {
        int sum = 0;
        for (int weight = 1; weight <= rate; weight++) {
            sum += weight * queue.remove();
        }
        return sum;
    }

    /** "An object is used for at most 512 calls after it has been made": the 512th is as good as the first. */
    private static void theLastCallStillAnswers() {
        RateGraph graph = new RateGraph();
        int calls = 0;
        graph.actor(0, 2, 0);
        graph.actor(1, 0, 1);
        graph.actor(2, 0, 1);
        graph.edge(1, 0, 6, 1, 0);
        graph.edge(1, 2, 5, 1, 0);
        graph.edge(0, 0, 1, 1, 1);
        graph.solve(2);
        calls += 7;
        while (calls < 510) {
            check.due("call " + calls + ": run(8)", graph.run(8), 8 * 12);
            calls++;
        }
        check.due("call 511: count(7)", graph.count(7), 503 * 8 * 12);
        check.due("call 512: run(8)", graph.run(8), 8 * 12);
    }
}
