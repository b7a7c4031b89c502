/** The sentences of promise 14 that name a bound: each is told above the test that holds it. */
public final class CountBoundsTest {
    private static final int LEAST = Integer.MIN_VALUE;
    private static final int GREATEST = Integer.MAX_VALUE;
    private static final Check check = new Check();

    public static void main(String[] args) {
        anotherWhatIsRefused();
        allOfTheEmptyGraph();
        allOfTheFullGraph();
        allOfOneActor();
        fromActorsToParts();
        partsByEveryTwoActors();
        solvedIsOneOrZero();
        zeroIfNotSolved();
        theLongestSchedule();
        fewestAndMostRuns();
        sumOfTwelvePeaks();
        firingsSinceTheSolve();
        tokensOnAllEdges();
        check.end();
    }

    private static void checkAll(String title, RateGraph graph, int... want) {
        for (int what = 0; what <= 8; what++) {
            check.due(title + ": count(" + what + ")", graph.count(what), want[what]);
        }
    }

    /** "another what: REFUSED": of a graph without actors, not SOLVED, SOLVED and full. */
    private static void anotherWhatIsRefused() {
        RateGraph solved = Graphs.withEdges(12);
        solved.solve(0);
        RateGraph[] graphs = {new RateGraph(), Graphs.withEdges(3), solved, Graphs.full()};
        int[] others = {LEAST, -9, -2, -1, 9, 10, 16, GREATEST};
        for (int g = 0; g < graphs.length; g++) {
            for (int what : others) {
                check.due("graph " + g + ": count(" + what + ")", graphs[g].count(what), RateGraph.REFUSED);
            }
        }
    }

    /** "Actors (0), edges (1), PARTS (2), 1 if SOLVED, else 0 (3), .." of the empty graph. */
    private static void allOfTheEmptyGraph() {
        RateGraph graph = new RateGraph();
        checkAll("empty", graph, 0, 0, 0, 0, 0, 0, 0, 0, 0);
        graph.solve(0);
        checkAll("empty after solve", graph, 0, 0, 0, 0, 0, 0, 0, 0, 0);
    }

    /** "Actors (0), edges (1), PARTS (2), 1 if SOLVED, else 0 (3), .." of the full graph. */
    private static void allOfTheFullGraph() {
        RateGraph graph = Graphs.full();
        checkAll("full, not SOLVED", graph, 8, 12, 1, 0, 0, 0, 0, 0, 0);
        check.due("full: solve", graph.solve(0), 8);
        // The delays are 0 .. 6 on the chain, which holds two tokens more in between, and 1 .. 5 on the loops.
        checkAll("full", graph, 8, 12, 1, 1, 8, 8, 21 + 7 * 2 + 15, 0, 21 + 15);
        graph.run(8);
        checkAll("full after runs", graph, 8, 12, 1, 1, 8, 8, 21 + 7 * 2 + 15, 64, 21 + 15);
    }

    /** "Actors (0), edges (1), PARTS (2), 1 if SOLVED, else 0 (3), .." of the least graph that can be SOLVED. */
    private static void allOfOneActor() {
        RateGraph graph = Graphs.withActors(7);
        checkAll("one, not SOLVED", graph, 1, 0, 1, 0, 0, 0, 0, 0, 0);
        graph.solve(0);
        checkAll("one", graph, 1, 0, 1, 1, 1, 1, 0, 0, 0);
        graph.run(1);
        checkAll("one after a run", graph, 1, 0, 1, 1, 1, 1, 0, 1, 0);
    }

    /** "Actors (0), edges (1), PARTS (2)": from one to eight and, joined by a chain, down again. */
    private static void fromActorsToParts() {
        RateGraph graph = new RateGraph();
        for (int a = 0; a <= 7; a++) {
            graph.actor(a, 0, 0);
            check.due("actors", graph.count(0), a + 1);
            check.due("an actor without edges is a PART", graph.count(2), a + 1);
        }
        for (int a = 0; a < 7; a++) {
            graph.edge(7 - a, 6 - a, 1, 6, 0);
            check.due("edges", graph.count(1), a + 1);
            check.due("PARTS", graph.count(2), 7 - a);
        }
        for (int a = 0; a < 5; a++) {
            graph.edge(a, 7, 6, 1, 0);
            check.due("PARTS with an edge within one, also if not CONSISTENT", graph.count(2), 1);
        }
        check.due("edges when full", graph.count(1), 12);
    }

    /** "A PART is as many actors as hang together by edges (an actor without edges is a PART)." */
    private static void partsByEveryTwoActors() {
        for (int from = 0; from <= 7; from++) {
            for (int to = 0; to <= 7; to++) {
                RateGraph graph = Graphs.withAllActors();
                graph.edge(from, to, 1, 1, 1);
                check.due("PARTS with an edge " + from + " to " + to, graph.count(2), from == to ? 8 : 7);
                graph.unedge(0);
                check.due("PARTS without it", graph.count(2), 8);
            }
        }
    }

    /** "1 if SOLVED, else 0 (3)", and "SOLVED after a successful solve, until a call changes it" */
    private static void solvedIsOneOrZero() {
        RateGraph graph = Graphs.withEdges(2);
        check.due("before", graph.count(3), 0);
        graph.solve(0);
        check.due("after solve", graph.count(3), 1);
        graph.run(8);
        check.due("after run", graph.count(3), 1);
        graph.unedge(1);
        check.due("after unedge", graph.count(3), 0);
        graph.solve(1);
        graph.edge(1, 1, 1, 1, 1);
        check.due("after edge", graph.count(3), 0);
        graph.solve(2);
        graph.actor(2, 0, 0);
        check.due("after a new actor", graph.count(3), 0);
        graph.solve(0);
        graph.actor(2, 1, 0);
        check.due("after another KIND", graph.count(3), 0);
        graph.solve(0);
        graph.actor(2, 1, 1);
        check.due("after another PARAMETER", graph.count(3), 0);
        graph.solve(0);
        graph.edge(2, 2, 1, 2, 0);
        graph.solve(0);
        check.due("after a solve that wasn't successful", graph.count(3), 0);
    }

    /** "and if SOLVED, else 0": all of them after a run and a change. */
    private static void zeroIfNotSolved() {
        RateGraph graph = Graphs.full();
        graph.solve(0);
        graph.run(3);
        graph.unedge(11);
        checkAll("after unedge", graph, 8, 11, 1, 0, 0, 0, 0, 0, 0);
        graph.solve(0);
        graph.run(3);
        graph.edge(7, 7, 1, 1, 1);
        checkAll("after edge", graph, 8, 12, 1, 0, 0, 0, 0, 0, 0);
        graph.solve(0);
        graph.run(3);
        graph.actor(0, 3, 3);
        checkAll("after actor", graph, 8, 12, 1, 0, 0, 0, 0, 0, 0);
    }

    /** "the length of THE SCHEDULE (4)" */
    private static void theLongestSchedule() {
        RateGraph graph = Graphs.withSumOf61And(3);
        graph.solve(0);
        check.due("length of the longest", graph.count(4), 64);
        graph.run(8);
        check.due("length after runs", graph.count(4), 64);
    }

    /** "RUNS (5)": "longest stretches of THE SCHEDULE of the same actor" */
    private static void fewestAndMostRuns() {
        RateGraph all = Graphs.withAllActors();
        all.solve(0);
        check.due("each actor once", all.count(5), 8);

        RateGraph two = Graphs.withActors(0, 1);
        two.edge(0, 1, 1, 6, 0);
        two.solve(0);
        check.due("six times 0 and once 1", two.count(5), 2);

        RateGraph turns = Graphs.withActors(0, 1, 2);
        turns.edge(2, 0, 6, 1, 0);
        turns.edge(0, 1, 1, 1, 0);
        turns.edge(1, 0, 1, 1, 1);
        turns.solve(0);
        check.dueSchedule("in turns", turns, "2010101010101");
        check.due("every firing is a RUN", turns.count(5), 13);

        RateGraph longest = Graphs.withSumOf61And(3);
        longest.solve(0);
        // Each actor fires to its end: 0, then 1, 2, 3 and 4.
        check.due("RUNS of the longest", longest.count(5), 5);
    }

    /** "the sum of all PEAKS (6)" */
    private static void sumOfTwelvePeaks() {
        RateGraph graph = Graphs.withActors(0, 1);
        for (int e = 0; e < 12; e++) {
            graph.edge(0, 1, 6, 6, 12);
        }
        graph.solve(0);
        check.due("twelve PEAKS of 18", graph.count(6), 216);
        graph.solve(1);
        check.due("twelve PEAKS of 12", graph.count(6), 144);
        for (int e = 11; e >= 0; e--) {
            graph.unedge(e);
        }
        graph.solve(0);
        check.due("no PEAKS", graph.count(6), 0);
    }

    /** "firings since the solve (7)" */
    private static void firingsSinceTheSolve() {
        RateGraph graph = Graphs.withEdges(1);
        graph.solve(0);
        check.due("none", graph.count(7), 0);
        graph.run(1);
        check.due("one period", graph.count(7), 2);
        graph.run(8);
        check.due("nine periods", graph.count(7), 18);
        graph.run(9);
        check.due("a refused run", graph.count(7), 18);
        graph.solve(3);
        check.due("a refused solve", graph.count(7), 18);
        graph.solve(2);
        check.due("a new solve", graph.count(7), 0);
    }

    /** "tokens on all edges (8)" */
    private static void tokensOnAllEdges() {
        RateGraph graph = Graphs.withActors(0, 1);
        graph.solve(0);
        check.due("no edges", graph.count(8), 0);
        for (int e = 0; e < 12; e++) {
            graph.edge(0, 1, 1, 1, 12);
        }
        graph.solve(0);
        check.due("twelve times twelve", graph.count(8), 144);
        graph.run(8);
        check.due("twelve times twelve after runs", graph.count(8), 144);
        for (int e = 0; e < 12; e++) {
            graph.unedge(0);
            graph.edge(0, 1, 1, 1, 0);
        }
        graph.solve(0);
        graph.run(1);
        check.due("no tokens on twelve edges", graph.count(8), 0);
    }
}
