/** Promises 6, 11, 12 and 13: run, latest, token, tokens. */
public final class RunningTest {
    private static final Check check = new Check();

    public static void main(String[] args) {
        runAnswersFirings();
        runRefuses();
        runGoesOnFromWhereItStands();
        solveBeginsAnew();
        kindZeroAdds();
        kindOneMultiplies();
        kindTwoSums();
        kindThreeTakesTheDifference();
        weightsBeginAnewOnEachEdge();
        loopsTakeBeforeTheyPut();
        allWraps();
        latestRefuses();
        tokensStandInTheOrderOfPutting();
        theFullestEdgeKeepsAllItsTokens();
        tokenRefuses();
        tokensRefuses();
        check.end();
    }

    /** Actor 0 puts 5, 6, 7 on edge 0 three at a time; actor 1, of a kind, takes them one by one. */
    private static RateGraph feeding(int kind, int parameter) {
        RateGraph graph = new RateGraph();
        graph.actor(0, 0, 5);
        graph.actor(1, kind, parameter);
        graph.edge(0, 1, 3, 1, 0);
        graph.solve(0);
        return graph;
    }

    private static void runAnswersFirings() {
        RateGraph graph = feeding(0, 0);
        check.due("firings before", graph.count(7), 0);
        check.due("run(1)", graph.run(1), 4);
        check.due("run(8)", graph.run(8), 32);
        check.due("firings after", graph.count(7), 36);
    }

    private static void runRefuses() {
        RateGraph graph = feeding(2, 0);
        int[] wrong = {0, 9, -1, Integer.MIN_VALUE, Integer.MAX_VALUE};
        for (int periods : wrong) {
            check.due("run(" + periods + ")", graph.run(periods), RateGraph.REFUSED);
        }
        check.due("firings after refused ones", graph.count(7), 0);
        check.due("latest after refused ones", graph.latest(1), 0);
        graph.actor(1, 2, 0);
        check.due("run(1) not SOLVED", graph.run(1), RateGraph.STATE);
        check.due("run(9) not SOLVED", graph.run(9), RateGraph.REFUSED);
        check.due("run(0) not SOLVED", graph.run(0), RateGraph.REFUSED);
    }

    private static void runGoesOnFromWhereItStands() {
        RateGraph once = feeding(2, 0);
        RateGraph twice = feeding(2, 0);
        once.run(8);
        twice.run(3);
        twice.run(5);
        check.due("latest in one run", once.latest(1), 8 * 18);
        check.due("latest in two runs", twice.latest(1), 8 * 18);
    }

    private static void solveBeginsAnew() {
        RateGraph graph = new RateGraph();
        graph.actor(0, 2, 0);
        graph.actor(1, 3, 0);
        graph.edge(0, 0, 1, 1, 2);
        graph.actor(2, 0, 4);
        graph.edge(2, 0, 1, 1, 0);
        graph.edge(0, 1, 1, 1, 0);
        graph.solve(0);
        graph.run(1);
        check.due("sum in the first run", graph.latest(0), 4);
        check.due("difference in the first run", graph.latest(1), 4);
        check.due("token of the first run", graph.token(0, 1), 4);
        graph.solve(0);
        check.due("sum after solve", graph.latest(0), 0);
        check.due("difference after solve", graph.latest(1), 0);
        check.due("firings after solve", graph.count(7), 0);
        check.due("token 0 after solve", graph.token(0, 0), 0);
        check.due("token 1 after solve", graph.token(0, 1), 0);
        graph.run(1);
        check.due("sum in the second run", graph.latest(0), 4);
        check.due("difference in the second run", graph.latest(1), 4);
    }

    private static void kindZeroAdds() {
        RateGraph graph = feeding(0, -10);
        graph.run(1);
        check.due("PARAMETER without edges", graph.latest(0), 5);
        check.due("PARAMETER + X", graph.latest(1), -3);
    }

    private static void kindOneMultiplies() {
        RateGraph graph = feeding(1, -10);
        graph.run(1);
        check.due("PARAMETER * X", graph.latest(1), -70);
        RateGraph source = new RateGraph();
        source.actor(3, 1, 9);
        source.solve(0);
        source.run(2);
        check.due("PARAMETER * 0", source.latest(3), 0);
    }

    private static void kindTwoSums() {
        RateGraph graph = feeding(2, 99);
        graph.run(1);
        check.due("5 + 6 + 7", graph.latest(1), 18);
        graph.run(1);
        check.due("twice 5 + 6 + 7", graph.latest(1), 36);
    }

    private static void kindThreeTakesTheDifference() {
        RateGraph graph = feeding(3, 99);
        graph.run(1);
        check.due("7 - 6", graph.latest(1), 1);
        RateGraph first = new RateGraph();
        first.actor(0, 0, 5);
        first.actor(1, 3, 99);
        first.edge(0, 1, 2, 2, 0);
        first.solve(0);
        first.run(1);
        check.due("5 + 2 * 6 - 0", first.latest(1), 17);
        first.run(1);
        check.due("17 - 17", first.latest(1), 0);
        first.run(1);
        check.due("17 - 17 again", first.latest(1), 0);
    }

    private static void weightsBeginAnewOnEachEdge() {
        RateGraph graph = new RateGraph();
        graph.actor(0, 0, 10);
        graph.actor(1, 0, 100);
        graph.actor(2, 0, 1000);
        graph.edge(0, 2, 3, 3, 0);
        graph.edge(1, 2, 2, 2, 0);
        graph.solve(0);
        graph.run(1);
        int first = 10 + 2 * 11 + 3 * 12;
        int second = 100 + 2 * 101;
        check.due("X over two edges", graph.latest(2), 1000 + first + second);
    }

    private static void loopsTakeBeforeTheyPut() {
        RateGraph graph = new RateGraph();
        graph.actor(0, 0, 1);
        graph.edge(0, 0, 2, 2, 3);
        graph.solve(0);
        graph.run(1);
        // 0 0 0 gives Y = 1, and 0 1 2 stand there.
        check.due("first Y", graph.latest(0), 1);
        check.due("first token", graph.token(0, 0), 0);
        check.due("second token", graph.token(0, 1), 1);
        check.due("third token", graph.token(0, 2), 2);
        graph.run(1);
        // 0 + 2 * 1 + 1 = 3, and 2 3 4 stand there.
        check.due("second Y", graph.latest(0), 3);
        check.due("first token then", graph.token(0, 0), 2);
        check.due("third token then", graph.token(0, 2), 4);
        check.due("tokens then", graph.tokens(0), 3);
    }

    private static void allWraps() {
        RateGraph graph = new RateGraph();
        graph.actor(0, 0, Integer.MAX_VALUE);
        graph.actor(1, 1, 3);
        graph.actor(2, 2, 0);
        graph.actor(3, 3, 0);
        graph.actor(4, 0, Integer.MAX_VALUE);
        graph.edge(0, 1, 1, 1, 0);
        graph.edge(0, 2, 2, 2, 0);
        graph.edge(0, 3, 2, 1, 0);
        graph.edge(0, 4, 1, 1, 0);
        graph.edge(0, 4, 2, 2, 2);
        graph.solve(0);
        graph.run(1);
        int most = Integer.MAX_VALUE;
        check.due("product wraps", graph.latest(1), most * 3);
        check.due("tokens and weights wrap", graph.latest(2), most + 2 * Integer.MIN_VALUE);
        check.due("difference wraps", graph.latest(3), 1);
        check.due("sum with PARAMETER wraps", graph.latest(4), -2);
        check.due("token 0 stays an int", graph.token(4, 0), most);
        check.due("token 1 wraps", graph.token(4, 1), Integer.MIN_VALUE);
        graph.run(2);
        check.due("sum of all X wraps", graph.latest(2), 3 * (most + 2 * Integer.MIN_VALUE));
    }

    private static void latestRefuses() {
        RateGraph graph = new RateGraph();
        graph.actor(2, 0, 8);
        check.due("latest not SOLVED", graph.latest(2), RateGraph.NONE);
        graph.solve(0);
        check.due("latest before a run", graph.latest(2), 0);
        graph.run(1);
        check.due("latest after a run", graph.latest(2), 8);
        int[] wrong = {-1, 1, 3, 8, Integer.MIN_VALUE, Integer.MAX_VALUE};
        for (int a : wrong) {
            check.due("latest(" + a + ")", graph.latest(a), RateGraph.NONE);
        }
        graph.actor(3, 0, 0);
        check.due("latest after a change", graph.latest(2), RateGraph.NONE);
    }

    private static void tokensStandInTheOrderOfPutting() {
        RateGraph graph = new RateGraph();
        graph.actor(0, 2, 0);
        graph.actor(1, 0, 0);
        graph.actor(2, 0, 1);
        graph.edge(2, 0, 1, 1, 0);
        graph.edge(0, 1, 2, 2, 7);
        graph.solve(0);
        check.due("tokens at first", graph.tokens(1), 7);
        check.due("last token at first", graph.token(1, 6), 0);
        graph.run(5);
        // 0 put 1 2, 2 3, 3 4, 4 5, 5 6 behind seven 0, and 1 took ten.
        int[] want = {3, 3, 4, 4, 5, 5, 6};
        check.due("tokens after runs", graph.tokens(1), want.length);
        for (int i = 0; i < want.length; i++) {
            check.due("token(1, " + i + ")", graph.token(1, i), want[i]);
        }
        check.due("token(1, 7)", graph.token(1, 7), RateGraph.NONE);
        check.due("count(8)", graph.count(8), 7);
    }

    /** 25 firings of 2 put 6 tokens each behind 12 before 3 takes the first one: the fullest edge that BIG leaves. */
    private static void theFullestEdgeKeepsAllItsTokens() {
        RateGraph graph = new RateGraph();
        graph.actor(0, 0, 1);
        graph.actor(1, 0, 1);
        graph.actor(2, 2, 0);
        graph.actor(3, 2, 0);
        graph.edge(0, 1, 5, 1, 0);
        graph.edge(1, 2, 5, 1, 0);
        graph.edge(2, 3, 6, 6, 12);
        check.due("solve", graph.solve(0), 56);
        check.due("peak", graph.peak(2), 12 + 25 * 6);
        // 0 puts 1 .. 5, so 1 puts 2 .. 6, 3 .. 7, .., 6 .. 10, and the sums are of these.
        int[] sums = new int[25 * 9];
        int sum = 0;
        for (int firing = 0; firing < sums.length; firing++) {
            sum += 2 + firing % 25 / 5 + firing % 5;
            sums[firing] = sum;
        }
        graph.run(1);
        graph.run(8);
        check.due("latest of 2", graph.latest(2), sums[224]);
        check.due("tokens that are left", graph.tokens(2), 12);
        for (int i = 0; i < 12; i++) {
            check.due("token(2, " + i + ")", graph.token(2, i), sums[223 + i / 6] + i % 6);
        }
        // 3 took the 12 of the delay, which are 0, and all but the last 12, and sums them up too.
        int taken = 0;
        for (int firing = 0; firing < 223; firing++) {
            for (int j = 0; j < 6; j++) {
                taken += (sums[firing] + j) * (j + 1);
            }
        }
        check.due("latest of 3", graph.latest(3), taken);
        graph.solve(0);
        for (int i = 0; i < 12; i++) {
            check.due("after solve: token(2, " + i + ")", graph.token(2, i), 0);
        }
    }

    private static void tokenRefuses() {
        RateGraph graph = new RateGraph();
        graph.actor(0, 0, 8);
        graph.edge(0, 0, 1, 1, 2);
        check.due("token not SOLVED", graph.token(0, 0), RateGraph.NONE);
        graph.solve(0);
        check.due("token(0, 1)", graph.token(0, 1), 0);
        int[] wrong = {-1, 2, 255, 256, Integer.MIN_VALUE, Integer.MAX_VALUE};
        for (int number : wrong) {
            check.due("token(0, " + number + ")", graph.token(0, number), RateGraph.NONE);
            check.due("token(" + number + ", 0)", graph.token(number, 0), RateGraph.NONE);
        }
        check.due("token(1, 0)", graph.token(1, 0), RateGraph.NONE);
        graph.actor(1, 0, 0);
        check.due("token(0, 0) after a change", graph.token(0, 0), RateGraph.NONE);
    }

    private static void tokensRefuses() {
        RateGraph graph = new RateGraph();
        graph.actor(0, 0, 8);
        graph.edge(0, 0, 1, 1, 2);
        check.due("tokens(0) not SOLVED", graph.tokens(0), RateGraph.STATE);
        check.due("tokens(1) not SOLVED", graph.tokens(1), RateGraph.REFUSED);
        graph.solve(0);
        check.due("tokens(0)", graph.tokens(0), 2);
        int[] wrong = {-1, 1, 12, Integer.MIN_VALUE, Integer.MAX_VALUE};
        for (int e : wrong) {
            check.due("tokens(" + e + ")", graph.tokens(e), RateGraph.REFUSED);
        }
    }
}
