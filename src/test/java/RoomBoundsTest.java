/** The sentences of the promises 9 and 10 that name a bound: each is told above the test that holds it. */
public final class RoomBoundsTest {
    private static final int LEAST = Integer.MIN_VALUE;
    private static final int GREATEST = Integer.MAX_VALUE;
    private static final int[] NUMBERS = {LEAST, -1, 0, 1, 2, 3, 4, 5, 6, 7, 8, 9, 10, 11, 12, 13, GREATEST};
    private static final Check check = new Check();

    public static void main(String[] args) {
        peakOfEdges();
        peakCountsWhatIsThereAtFirst();
        peakCountsEveryFiring();
        peakOfALoopIsItsDelay();
        peakOfTheFullestEdge();
        peakIsOfTheLastSolve();
        nestedIsStateIfNotSolved();
        nestedNeedsDelayZero();
        nestedNeedsLesserToGreater();
        nestedAllowsLoopsAndCountsThemNothing();
        nestedOfOneIsZero();
        nestedOfTwo();
        nestedCutsInFrontBehindAndInTheMiddle();
        nestedOfTheFullGraph();
        check.end();
    }

    /** "The PEAK of edge e; no such edge: REFUSED; not SOLVED: STATE." */
    private static void peakOfEdges() {
        int[] counts = {0, 1, 12};
        for (int edges : counts) {
            RateGraph graph = Graphs.withEdges(edges);
            for (int e : NUMBERS) {
                boolean there = e >= 0 && e < edges;
                check.due(edges + " edges, not SOLVED: peak(" + e + ")", graph.peak(e),
                    there ? RateGraph.STATE : RateGraph.REFUSED);
            }
            graph.solve(0);
            for (int e : NUMBERS) {
                boolean there = e >= 0 && e < edges;
                check.due(edges + " edges: peak(" + e + ")", graph.peak(e), there ? e + 2 : RateGraph.REFUSED);
            }
        }
    }

    /** "the most tokens that are on it at first": the taker is the lesser actor and fires first. */
    private static void peakCountsWhatIsThereAtFirst() {
        for (int delay = 1; delay <= 12; delay++) {
            RateGraph graph = Graphs.withActors(0, 1);
            graph.edge(1, 0, 1, 1, delay);
            graph.solve(0);
            check.dueSchedule("delay " + delay, graph, "01");
            check.due("peak of delay " + delay, graph.peak(0), delay);
        }
        RateGraph none = Graphs.withActors(0, 1);
        none.edge(1, 0, 1, 1, 0);
        none.solve(0);
        check.dueSchedule("delay 0", none, "10");
        check.due("peak of delay 0", none.peak(0), 1);
    }

    /** "or after any firing of THE SCHEDULE": the first one, one in the middle, the last one. */
    private static void peakCountsEveryFiring() {
        RateGraph first = Graphs.withActors(0, 1);
        first.edge(0, 1, 6, 6, 0);
        first.solve(0);
        check.due("most after the first firing", first.peak(0), 6);

        RateGraph middle = Graphs.withActors(0, 1, 2);
        middle.edge(1, 2, 2, 2, 1);
        middle.solve(0);
        check.dueSchedule("middle", middle, "012");
        check.due("most after a firing in the middle", middle.peak(0), 3);

        RateGraph last = Graphs.withActors(0, 1);
        last.edge(1, 0, 6, 2, 5);
        last.solve(0);
        check.dueSchedule("last", last, "0010");
        check.due("5, 3, 1, 7, 5", last.peak(0), 7);
        last.unedge(0);
        last.edge(1, 0, 6, 2, 6);
        last.solve(0);
        check.dueSchedule("back to what it was", last, "0001");
        check.due("6, 4, 2, 0, 6", last.peak(0), 6);
    }

    /** "after any firing": not between its taking and its putting. */
    private static void peakOfALoopIsItsDelay() {
        for (int rate = 1; rate <= 6; rate++) {
            for (int delay = rate; delay <= 12; delay++) {
                RateGraph graph = Graphs.withActors(5);
                graph.edge(5, 5, rate, rate, delay);
                check.due("loop of " + rate + ", delay " + delay, graph.solve(1), 1);
                check.due("peak of loop of " + rate + ", delay " + delay, graph.peak(0), delay);
            }
        }
    }

    /** "the most tokens that are on it": the most that 64 firings allow. */
    private static void peakOfTheFullestEdge() {
        RateGraph graph = Graphs.withActors(0, 1, 2, 3);
        graph.edge(0, 1, 5, 1, 0);
        graph.edge(1, 2, 5, 1, 0);
        graph.edge(2, 3, 6, 6, 12);
        graph.solve(0);
        check.due("12 and 25 times 6", graph.peak(2), 162);
        check.due("sum of all", graph.count(6), 5 + 25 + 162);
        graph.solve(1);
        // 3 takes of the delay before 0 fires, and takes again as soon as it can: 12, 6, 0, 6, 0, .., 6, 12.
        check.due("12 and no more with policy 1", graph.peak(2), 12);
    }

    /** "after any firing of THE SCHEDULE": of the one that was made last, and of no run. */
    private static void peakIsOfTheLastSolve() {
        RateGraph graph = Graphs.withActors(0, 1);
        graph.edge(0, 1, 1, 6, 12);
        graph.solve(0);
        check.due("peak, policy 0", graph.peak(0), 18);
        graph.solve(1);
        check.due("peak, policy 1 after it", graph.peak(0), 12);
        graph.run(8);
        check.due("peak after runs", graph.peak(0), 12);
        graph.unedge(0);
        graph.edge(0, 1, 1, 6, 0);
        graph.solve(1);
        check.due("peak of a new edge in its place", graph.peak(0), 6);
    }

    /** "not SOLVED .. STATE" */
    private static void nestedIsStateIfNotSolved() {
        RateGraph graph = new RateGraph();
        check.due("empty: nested()", graph.nested(), RateGraph.STATE);
        graph.solve(0);
        check.due("empty, after solve: nested()", graph.nested(), RateGraph.STATE);
        graph.actor(0, 0, 0);
        graph.actor(1, 0, 0);
        check.due("not SOLVED yet: nested()", graph.nested(), RateGraph.STATE);
        graph.solve(0);
        check.due("SOLVED: nested()", graph.nested(), 0);
        graph.edge(0, 1, 1, 1, 0);
        check.due("after a change: nested()", graph.nested(), RateGraph.STATE);
        graph.edge(0, 1, 1, 2, 0);
        graph.solve(0);
        check.due("after INCONSISTENT: nested()", graph.nested(), RateGraph.STATE);
    }

    /** "goes from a lesser to a greater actor and has DELAY 0" */
    private static void nestedNeedsDelayZero() {
        for (int delay = 0; delay <= 12; delay++) {
            RateGraph graph = Graphs.withActors(0, 1, 2);
            graph.edge(0, 1, 1, 1, 0);
            graph.edge(1, 2, 1, 1, delay);
            graph.solve(0);
            check.due("nested with delay " + delay, graph.nested(), delay == 0 ? 2 : RateGraph.STATE);
        }
    }

    /** "every edge goes from a lesser to a greater actor": each two actors, either way. */
    private static void nestedNeedsLesserToGreater() {
        for (int from = 0; from <= 7; from++) {
            for (int to = 0; to <= 7; to++) {
                if (from != to) {
                    RateGraph graph = Graphs.withAllActors();
                    graph.edge(from, to, 3, 3, 0);
                    graph.solve(0);
                    String title = "nested with an edge " + from + " to " + to;
                    check.due(title, graph.nested(), from < to ? 3 : RateGraph.STATE);
                    check.due("peak with an edge " + from + " to " + to, graph.peak(0), 3);
                }
            }
        }
        RateGraph last = Graphs.withEdges(0);
        for (int e = 0; e < 11; e++) {
            last.edge(0, 1, 1, 1, 0);
        }
        last.edge(1, 0, 1, 1, 12);
        last.solve(0);
        check.due("nested with the last of twelve back", last.nested(), RateGraph.STATE);
    }

    /** "or is one from an actor to itself", and "edges from an actor to itself count nothing" */
    private static void nestedAllowsLoopsAndCountsThemNothing() {
        for (int delay = 1; delay <= 12; delay++) {
            RateGraph graph = Graphs.withActors(0, 7);
            graph.edge(0, 0, 1, 1, delay);
            graph.edge(7, 7, 1, 1, delay);
            graph.solve(0);
            check.due("nested of loops alone, delay " + delay, graph.nested(), 0);
            graph.edge(0, 7, 2, 3, 0);
            graph.solve(0);
            check.due("nested of loops and an edge, delay " + delay, graph.nested(), 6);
        }
    }

    /** "a stretch of one costs 0" */
    private static void nestedOfOneIsZero() {
        for (int a = 0; a <= 7; a++) {
            RateGraph graph = Graphs.withActors(a);
            graph.solve(0);
            check.due("nested of " + a + " alone", graph.nested(), 0);
        }
    }

    /** "a longer one is cut into two": of two there is one cut only. */
    private static void nestedOfTwo() {
        int[][] want = {{1, 1, 1}, {1, 6, 6}, {6, 1, 6}, {6, 6, 6}, {5, 6, 30}, {6, 5, 30}, {4, 6, 12}, {6, 4, 12}};
        for (int[] w : want) {
            RateGraph graph = Graphs.withActors(0, 7);
            graph.edge(0, 7, w[0], w[1], 0);
            graph.solve(0);
            check.due("nested of the rates " + w[0] + " and " + w[1], graph.nested(), w[2]);
        }
    }

    /** "the least over all cuts", "divided by the greatest common divisor of the REPETITIONS of all actors of the stretch" */
    private static void nestedCutsInFrontBehindAndInTheMiddle() {
        RateGraph rising = Graphs.withActors(0, 1, 3, 5, 7);
        int[] actors = {0, 1, 3, 5, 7};
        for (int i = 0; i < 4; i++) {
            rising.edge(actors[i], actors[i + 1], 2, 1, 0);
        }
        // REPETITIONS 1 2 4 8 16: the first actor of each stretch is cut off, for 2.
        check.due("rising", rising.solve(0), 31);
        check.due("nested with cuts in front", rising.nested(), 8);

        RateGraph falling = Graphs.withActors(0, 1, 3, 5, 7);
        for (int i = 0; i < 4; i++) {
            falling.edge(actors[i], actors[i + 1], 1, 2, 0);
        }
        // REPETITIONS 16 8 4 2 1: the last actor of each stretch is cut off, for 2.
        check.due("falling", falling.solve(0), 31);
        check.due("nested with cuts behind", falling.nested(), 8);

        RateGraph middle = Graphs.withActors(0, 1, 2, 3);
        middle.edge(0, 1, 1, 1, 0);
        middle.edge(1, 2, 4, 3, 0);
        middle.edge(2, 3, 1, 1, 0);
        // REPETITIONS 3 3 4 4: 3 / 3 + 4 / 4 + 12; a cut in front is 3 + (12 + 1), one behind (1 + 12) + 4.
        check.due("middle", middle.solve(0), 14);
        check.due("nested with a cut in the middle", middle.nested(), 14);
    }

    /** "Its cost for all actors is the NESTED ROOM": for all eight with twelve edges. */
    private static void nestedOfTheFullGraph() {
        RateGraph graph = Graphs.withAllActors();
        for (int a = 0; a < 7; a++) {
            graph.edge(a, a + 1, 6, 6, 0);
        }
        for (int a = 0; a < 5; a++) {
            graph.edge(0, 7, 1, 1, 0);
        }
        check.due("full", graph.solve(0), 8);
        check.due("nested of all actors and twelve edges", graph.nested(), 7 * 6 + 5);
    }
}
