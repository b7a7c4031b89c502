/** Promises 9 and 10: peak, nested. */
public final class RoomTest {
    private static final Check check = new Check();

    public static void main(String[] args) {
        peakIsTheMostAfterAnyFiring();
        peakIsAtLeastTheDelay();
        peakOfALoopIsNotTakenWithinAFiring();
        peakHangsOnThePolicyAndNotOnTheRun();
        peakRefuses();
        nestedTakesTheLeastCut();
        nestedDividesByAllOfTheStretch();
        nestedLeavesOutLoopsAndAbsentActors();
        nestedNeedsTheShape();
        check.end();
    }

    private static void peakIsTheMostAfterAnyFiring() {
        RateGraph graph = Graphs.withActors(0, 1, 2);
        graph.edge(0, 1, 3, 2, 0);
        graph.edge(1, 2, 1, 3, 0);
        // 0 fires twice, 1 three times, 2 once.
        graph.solve(0);
        check.due("peak(0), policy 0", graph.peak(0), 6);
        check.due("peak(1), policy 0", graph.peak(1), 3);
        graph.solve(1);
        // 0 1 0 1 1 2: 3, 1, 4, 2, 0 on edge 0.
        check.dueSchedule("policy 1", graph, "010112");
        check.due("peak(0), policy 1", graph.peak(0), 4);
        check.due("peak(1), policy 1", graph.peak(1), 3);
        check.due("count(6), policy 1", graph.count(6), 7);
    }

    private static void peakIsAtLeastTheDelay() {
        RateGraph graph = Graphs.withActors(0, 1);
        graph.edge(1, 0, 2, 1, 12);
        // Edge 0 has 12, 11, 10 and then 12 tokens.
        graph.solve(0);
        check.dueSchedule("consumer first", graph, "001");
        check.due("peak that is the delay", graph.peak(0), 12);
        graph.unedge(0);
        graph.edge(1, 0, 2, 1, 1);
        graph.solve(0);
        check.dueSchedule("consumer once, producer, consumer", graph, "010");
        check.due("peak above the delay", graph.peak(0), 2);
        graph.unedge(0);
        graph.edge(0, 1, 6, 6, 12);
        graph.solve(0);
        check.due("peak of delay and one firing", graph.peak(0), 18);
    }

    private static void peakOfALoopIsNotTakenWithinAFiring() {
        RateGraph graph = Graphs.withActors(4);
        graph.edge(4, 4, 3, 3, 5);
        graph.solve(0);
        check.due("peak of a loop", graph.peak(0), 5);
        check.due("tokens of a loop", graph.tokens(0), 5);
    }

    private static void peakHangsOnThePolicyAndNotOnTheRun() {
        RateGraph graph = Graphs.withActors(0, 1);
        graph.edge(0, 1, 1, 1, 0);
        graph.edge(0, 0, 1, 1, 1);
        graph.actor(2, 0, 0);
        graph.edge(2, 0, 6, 1, 0);
        graph.solve(0);
        check.due("peak, policy 0", graph.peak(0), 6);
        graph.solve(1);
        check.due("peak, policy 1", graph.peak(0), 1);
        graph.run(8);
        check.due("peak after a run", graph.peak(0), 1);
        check.due("tokens after a run", graph.tokens(0), 0);
    }

    private static void peakRefuses() {
        RateGraph graph = Graphs.withActors(0, 1);
        graph.edge(0, 1, 1, 1, 0);
        check.due("peak(0) not SOLVED", graph.peak(0), RateGraph.STATE);
        check.due("peak(1) not SOLVED", graph.peak(1), RateGraph.REFUSED);
        graph.solve(0);
        int[] wrong = {-1, 1, 12, Integer.MIN_VALUE, Integer.MAX_VALUE};
        for (int e : wrong) {
            check.due("peak(" + e + ")", graph.peak(e), RateGraph.REFUSED);
        }
    }

    private static void nestedTakesTheLeastCut() {
        RateGraph graph = Graphs.withActors(0, 1, 2, 3);
        graph.edge(0, 1, 4, 1, 0);
        graph.edge(1, 2, 1, 2, 0);
        graph.edge(2, 3, 4, 1, 0);
        // REPETITIONS 1 4 2 8: 0 against the rest is 4, the rest is 6 by either cut; other first cuts are 12 and 14.
        check.due("solve", graph.solve(0), 15);
        check.due("nested of a chain", graph.nested(), 10);
        graph.solve(1);
        check.due("nested with another policy", graph.nested(), 10);

        RateGraph falling = Graphs.withActors(0, 1, 2);
        falling.edge(0, 1, 1, 2, 0);
        falling.edge(1, 2, 1, 3, 0);
        // REPETITIONS 6 3 1: 6 / 3 + 3 is less than 3 + 6.
        falling.solve(0);
        check.due("nested with the greater divisor in front", falling.nested(), 5);
    }

    private static void nestedDividesByAllOfTheStretch() {
        RateGraph graph = Graphs.withActors(0, 1);
        graph.edge(0, 1, 2, 3, 0);
        graph.edge(0, 1, 4, 6, 0);
        // REPETITIONS 3 2: both edges cross the one cut.
        graph.solve(0);
        check.due("nested of two edges", graph.nested(), 6 + 12);

        // 2 hangs with none and has the REPETITIONS 1, so stretches with it have the divisor 1.
        RateGraph apart = Graphs.withActors(0, 1, 2, 3);
        apart.edge(0, 1, 6, 1, 0);
        apart.edge(1, 3, 1, 3, 0);
        // REPETITIONS 1 6 1 2: 1 .. 3 costs 6 by each cut and not 3, as 1 and 3 alone would.
        apart.solve(0);
        check.due("nested with an actor apart", apart.nested(), 12);

        RateGraph wide = Graphs.withActors(0, 1, 2);
        wide.edge(0, 2, 1, 1, 0);
        wide.edge(0, 1, 2, 1, 0);
        wide.edge(1, 2, 1, 2, 0);
        // REPETITIONS 1 2 1: first cut at 0: 1 + 2 + 2; at 1: 1 + 2 + 2.
        wide.solve(0);
        check.due("nested with an edge across", wide.nested(), 5);
    }

    private static void nestedLeavesOutLoopsAndAbsentActors() {
        RateGraph one = Graphs.withActors(6);
        one.solve(0);
        check.due("nested of one actor", one.nested(), 0);
        one.edge(6, 6, 2, 2, 9);
        one.solve(0);
        check.due("nested of one actor with a loop", one.nested(), 0);

        RateGraph apart = Graphs.withActors(1, 2, 7);
        apart.solve(0);
        check.due("nested without edges", apart.nested(), 0);

        RateGraph gap = Graphs.withActors(1, 5, 7);
        gap.edge(1, 5, 2, 1, 0);
        gap.edge(5, 7, 3, 3, 0);
        gap.edge(5, 5, 4, 4, 12);
        gap.edge(1, 1, 1, 1, 1);
        // REPETITIONS 1 2 2: 5 and 7 cost 6 / 2, and 1 against them 2.
        gap.solve(0);
        check.due("nested with gaps and loops", gap.nested(), 5);
    }

    private static void nestedNeedsTheShape() {
        RateGraph graph = Graphs.withActors(0, 1);
        check.due("nested not SOLVED", graph.nested(), RateGraph.STATE);
        graph.edge(0, 1, 1, 1, 0);
        graph.edge(0, 1, 1, 1, 1);
        graph.solve(0);
        check.due("nested with a delay", graph.nested(), RateGraph.STATE);
        graph.unedge(1);
        check.due("nested after a change", graph.nested(), RateGraph.STATE);
        graph.solve(0);
        check.due("nested without the delay", graph.nested(), 1);
        graph.unedge(0);
        graph.edge(1, 0, 1, 1, 0);
        graph.solve(0);
        check.due("nested downwards", graph.nested(), RateGraph.STATE);
    }
}
