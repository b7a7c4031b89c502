/** The sentences of the section Terms that name a bound and belong to no one promise: each is told above its test. */
public final class TermsBoundsTest {
    private static final Check check = new Check();

    public static void main(String[] args) {
        readyWithJustAsMany();
        readyOnEachEdge();
        readyWithoutEdges();
        takesFirstAndPutsThen();
        weightsGoUpToSix();
        yGoesOnAllEdges();
        policyZeroIsTheLeast();
        policyOneTakesTheFewest();
        policyOneOfEqualOnesTheLeast();
        policyTwoBeginsWithTheLeast();
        policyTwoStaysWithTheLast();
        policyTwoGoesUpAndThenAround();
        noneFiresMoreOftenThanItsRepetitions();
        noneIsReady();
        edgesAsAtFirstForEverySolve();
        balanceOfTheSteepestChains();
        changesAndNoChanges();
        check.end();
    }

    /** "READY if on each edge to it there are at least as many tokens as the rate out": the taker is the least actor. */
    private static void readyWithJustAsMany() {
        for (int out = 1; out <= 6; out++) {
            for (int delay = 0; delay <= 12; delay++) {
                RateGraph graph = Graphs.withActors(0, 1);
                graph.edge(1, 0, out, out, delay);
                graph.solve(0);
                check.dueSchedule("out " + out + ", delay " + delay, graph, delay >= out ? "01" : "10");
            }
        }
    }

    /** "on each edge to it": twelve edges, one of which lacks one token. */
    private static void readyOnEachEdge() {
        for (int lacking = 0; lacking <= 12; lacking++) {
            RateGraph graph = Graphs.withActors(0, 1);
            for (int e = 0; e < 12; e++) {
                graph.edge(1, 0, 3, 3, e == lacking ? 2 : 3);
            }
            graph.solve(0);
            check.dueSchedule("edge " + lacking + " lacks one", graph, lacking == 12 ? "01" : "10");
        }
    }

    /** "on each edge to it": an actor without such edges is always READY. */
    private static void readyWithoutEdges() {
        RateGraph graph = Graphs.withActors(7, 3);
        graph.edge(7, 3, 1, 6, 0);
        check.due("solve", graph.solve(0), 7);
        check.dueSchedule("7 six times, then 3", graph, "7777773");
    }

    /** "it takes these from all edges to it, and then puts tokens on all edges from it" */
    private static void takesFirstAndPutsThen() {
        for (int rate = 1; rate <= 6; rate++) {
            RateGraph just = Graphs.withActors(4);
            just.edge(4, 4, rate, rate, rate);
            check.due("a loop of " + rate + " with as many", just.solve(0), 1);
            just.run(1);
            for (int i = 0; i < rate; i++) {
                check.due("loop of " + rate + ": token " + i, just.token(0, i), 1 + i);
            }
            RateGraph less = Graphs.withActors(4);
            less.edge(4, 4, rate, rate, rate - 1);
            check.due("a loop of " + rate + " with one less", less.solve(0), RateGraph.DEADLOCK - 4);
        }
    }

    /** "the first one times 1, the second one times 2, and so on": the tokens are 10, 11, .. */
    private static void weightsGoUpToSix() {
        int[] want = {10, 32, 68, 120, 190, 280};
        for (int rate = 1; rate <= 6; rate++) {
            RateGraph graph = new RateGraph();
            graph.actor(0, 0, 10);
            graph.actor(1, 0, 0);
            graph.edge(0, 1, rate, rate, 0);
            graph.solve(0);
            graph.run(1);
            check.due("X of " + rate + " tokens", graph.latest(1), want[rate - 1]);
        }
    }

    /** "Token j (from 0) that it puts on an edge is Y + j": from 0 on each edge anew. */
    private static void yGoesOnAllEdges() {
        RateGraph graph = new RateGraph();
        graph.actor(0, 0, 10);
        graph.actor(1, 0, 0);
        for (int e = 0; e < 12; e++) {
            int rate = 1 + e % 6;
            graph.edge(0, 1, rate, rate, rate);
        }
        graph.solve(0);
        graph.run(1);
        for (int e = 0; e < 12; e++) {
            int rate = 1 + e % 6;
            check.due("tokens(" + e + ")", graph.tokens(e), rate);
            for (int j = 0; j < rate; j++) {
                check.due("token(" + e + ", " + j + ")", graph.token(e, j), 10 + j);
            }
        }
    }

    /** "policy 0: the least" */
    private static void policyZeroIsTheLeast() {
        RateGraph graph = Graphs.withAllActors();
        graph.edge(1, 0, 1, 1, 0);
        graph.edge(7, 2, 2, 1, 1);
        graph.solve(0);
        check.dueSchedule("policy 0", graph, "102345672");
    }

    /** "1: the one after whose firing the fewest tokens are on all edges" */
    private static void policyOneTakesTheFewest() {
        RateGraph graph = Graphs.withActors(0, 1, 2, 3);
        graph.edge(0, 3, 6, 6, 6);
        graph.edge(1, 3, 5, 5, 5);
        graph.edge(2, 3, 4, 4, 4);
        // 3 takes 15; then 2 puts 4, 1 puts 5, 0 puts 6.
        graph.solve(1);
        check.dueSchedule("policy 1", graph, "3210");
        // A loop puts as many as it takes, so 0 leaves 6 more, and not 12 or 0.
        graph.edge(0, 0, 6, 6, 6);
        graph.edge(2, 2, 3, 3, 3);
        graph.solve(1);
        check.dueSchedule("policy 1 with loops", graph, "3210");

        RateGraph unlike = Graphs.withActors(0, 1, 2, 3);
        unlike.edge(1, 2, 1, 6, 0);
        unlike.edge(0, 3, 2, 1, 0);
        // What a firing puts is told by the rate in: 1 puts one token and 0 puts two.
        unlike.solve(1);
        check.dueSchedule("policy 1 with unlike rates", unlike, "1111112033");
        unlike.edge(3, 1, 3, 1, 5);
        // 3 takes one and puts three, 1 takes one and puts one: now 1 comes before 0 as long as it is READY.
        unlike.solve(1);
        check.dueSchedule("policy 1 with unlike rates in a ring", unlike, "1111103123");
    }

    /** "of equal ones the least" */
    private static void policyOneOfEqualOnesTheLeast() {
        RateGraph graph = Graphs.withActors(7, 6, 5, 4);
        graph.edge(7, 4, 2, 2, 0);
        graph.edge(6, 4, 1, 1, 0);
        graph.edge(6, 5, 1, 1, 1);
        // 5 takes one; then 6 and 7 put two each; 4 takes three.
        graph.solve(1);
        check.dueSchedule("policy 1 with equal ones", graph, "5674");
        RateGraph all = Graphs.withAllActors();
        all.solve(1);
        check.dueSchedule("policy 1 with all equal", all, "01234567");
    }

    /** "2: the one that fired last ..": at first there is none, so it is the least. */
    private static void policyTwoBeginsWithTheLeast() {
        for (int least = 0; least <= 7; least++) {
            RateGraph graph = new RateGraph();
            StringBuilder want = new StringBuilder();
            for (int a = least; a <= 7; a++) {
                graph.actor(a, 0, 0);
                want.append(a);
            }
            graph.solve(2);
            check.dueSchedule("policy 2 from " + least, graph, want.toString());
        }
    }

    /** "2: the one that fired last, if it is among them": READY, and with firings left. */
    private static void policyTwoStaysWithTheLast() {
        RateGraph graph = Graphs.withActors(0, 1, 2);
        graph.edge(1, 0, 1, 1, 1);
        graph.edge(1, 2, 1, 3, 0);
        // REPETITIONS 3 3 1: 0 has one token only; then 1 goes on to its end though 0 is READY again.
        graph.solve(2);
        check.dueSchedule("policy 2", graph, "0111200");
        graph.solve(0);
        check.dueSchedule("policy 0", graph, "0101012");
    }

    /** "else the least above it, else the least" */
    private static void policyTwoGoesUpAndThenAround() {
        RateGraph graph = Graphs.withActors(0, 3, 4, 7);
        graph.edge(3, 0, 1, 1, 0);
        graph.edge(7, 3, 1, 1, 1);
        graph.edge(4, 7, 1, 1, 1);
        graph.edge(0, 4, 1, 1, 0);
        // 3 first, as 0 waits; 7 is the least above it, as 4 waits; then around to 0, and up to 4.
        graph.solve(2);
        check.dueSchedule("up, around and up", graph, "3704");

        RateGraph last = Graphs.withActors(0, 7);
        last.edge(7, 0, 6, 1, 0);
        last.solve(2);
        check.dueSchedule("from the last to the first", last, "7000000");
    }

    /** "as long as an actor has fired less often than its REPETITIONS: of those that have" */
    private static void noneFiresMoreOftenThanItsRepetitions() {
        for (int policy = 0; policy <= 2; policy++) {
            RateGraph graph = Graphs.withActors(0, 1);
            graph.edge(0, 1, 5, 6, 12);
            check.due("solve(" + policy + ")", graph.solve(policy), 11);
            int[] fired = new int[2];
            for (int i = 0; i < 11; i++) {
                fired[graph.schedule(i)]++;
            }
            check.due("policy " + policy + ": firings of 0", fired[0], 6);
            check.due("policy " + policy + ": firings of 1", fired[1], 5);
            graph.run(1);
            check.due("policy " + policy + ": all as before", graph.tokens(0), 12);
        }
    }

    /** "None is READY: DEADLOCK.": at the first firing, in the middle, and at the last one. */
    private static void noneIsReady() {
        for (int delay = 0; delay <= 6; delay++) {
            RateGraph graph = Graphs.withActors(0, 1);
            graph.edge(0, 1, 1, 6, 0);
            graph.edge(1, 0, 6, 1, delay);
            check.due("a ring with " + delay + " of 6", graph.solve(delay % 3), delay < 6 ? RateGraph.DEADLOCK : 7);
        }
        RateGraph last = Graphs.withActors(0, 1);
        last.edge(0, 1, 1, 1, 0);
        last.edge(1, 1, 1, 1, 0);
        check.due("the last firing is missing", last.solve(0), RateGraph.DEADLOCK - 1);
    }

    /** "with the edges as at first": a solve after a run, or after a DEADLOCK, doesn't see its tokens. */
    private static void edgesAsAtFirstForEverySolve() {
        RateGraph graph = Graphs.withActors(0, 1);
        graph.edge(1, 0, 3, 2, 3);
        graph.solve(0);
        check.dueSchedule("first", graph, "01001");
        graph.run(1);
        graph.solve(0);
        check.dueSchedule("after a run", graph, "01001");
        check.due("peak after a run", graph.peak(0), 4);
        graph.edge(1, 1, 1, 1, 0);
        check.due("a DEADLOCK after one firing of 0", graph.solve(0), RateGraph.DEADLOCK);
        graph.unedge(1);
        check.due("solve after the DEADLOCK", graph.solve(0), 5);
        check.dueSchedule("after the DEADLOCK", graph, "01001");
        check.due("peak after the DEADLOCK", graph.peak(0), 4);
        check.due("tokens after the DEADLOCK", graph.tokens(0), 3);
    }

    /** "a number above 0 for each actor": the numbers of these are far above 64, and the ring that closes them fits or not. */
    private static void balanceOfTheSteepestChains() {
        RateGraph up = Graphs.withAllActors();
        for (int a = 0; a < 7; a++) {
            up.edge(a, a + 1, 6, 1, 0);
        }
        check.due("6 to the 7th", up.solve(0), RateGraph.BIG);
        for (int a = 0; a < 5; a++) {
            up.edge(a, a + 1, 6, 1, 0);
        }
        check.due("6 to the 7th with all edges", up.solve(0), RateGraph.BIG);
        up.unedge(11);
        up.edge(7, 0, 1, 6, 0);
        check.due("back in one step", up.solve(0), RateGraph.INCONSISTENT - 11);

        RateGraph mixed = Graphs.withAllActors();
        int[] in = {6, 5, 6, 5, 6, 5, 6};
        int[] out = {5, 6, 5, 6, 5, 6, 5};
        for (int a = 0; a < 7; a++) {
            mixed.edge(a, a + 1, in[a], out[a], 0);
        }
        check.due("5 and 6 in turns", mixed.solve(0), 44);
        mixed.unedge(6);
        mixed.edge(7, 0, 6, 6, 12);
        check.due("a ring that fits", mixed.solve(0), 43);
        mixed.edge(7, 6, 1, 1, 12);
        check.due("a ring that fits still", mixed.solve(0), 43);
        mixed.edge(7, 5, 1, 1, 12);
        check.due("a ring that doesn't fit", mixed.solve(0), RateGraph.INCONSISTENT - 8);
    }

    /** "The graph is SOLVED after a successful solve, until a call changes it." */
    private static void changesAndNoChanges() {
        RateGraph graph = Graphs.full();
        graph.solve(0);
        check.due("FULL is no change", graph.edge(0, 0, 1, 1, 0), RateGraph.FULL);
        check.due("REFUSED is no change", graph.edge(0, 8, 1, 1, 0), RateGraph.REFUSED);
        graph.actor(8, 0, 0);
        graph.unedge(12);
        graph.solve(3);
        graph.run(0);
        check.due("SOLVED after these", graph.count(3), 1);
        graph.run(1);
        check.due("a run is no change", graph.count(3), 1);
        graph.unedge(11);
        check.due("unedge is a change", graph.count(3), 0);
        graph.solve(0);
        graph.actor(0, 0, 1);
        check.due("actor is a change", graph.count(3), 0);
        graph.solve(0);
        graph.edge(0, 0, 1, 1, 1);
        check.due("edge is a change", graph.count(3), 0);
    }
}
