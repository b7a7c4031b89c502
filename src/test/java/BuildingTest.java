/** Promises 1 to 4: a new object, actor, edge, unedge. */
public final class BuildingTest {
    private static final Check check = new Check();

    public static void main(String[] args) {
        newObjectIsEmpty();
        objectsAreApart();
        actorTakesAllThatIsInRange();
        actorRefusesOtherNumbers();
        actorAgainKeepsEdgesAndChangesTheGraph();
        edgeAnswersItsNumber();
        edgeRefuses();
        edgeIsFullAtTwelve();
        edgeChangesTheGraph();
        unedgeMovesLaterOnesDown();
        unedgeRefuses();
        unedgeLeavesRoomForNewOnes();
        check.end();
    }

    private static void newObjectIsEmpty() {
        RateGraph graph = new RateGraph();
        for (int what = 0; what <= 8; what++) {
            check.due("new: count(" + what + ")", graph.count(what), 0);
        }
        for (int a = -1; a <= 8; a++) {
            check.due("new: repetitions(" + a + ")", graph.repetitions(a), RateGraph.REFUSED);
            check.due("new: latest(" + a + ")", graph.latest(a), RateGraph.NONE);
        }
        check.due("new: tokens(0)", graph.tokens(0), RateGraph.REFUSED);
        check.due("new: peak(0)", graph.peak(0), RateGraph.REFUSED);
        check.due("new: token(0, 0)", graph.token(0, 0), RateGraph.NONE);
        check.due("new: unedge(0)", graph.unedge(0), RateGraph.REFUSED);
        check.due("new: edge", graph.edge(0, 0, 1, 1, 0), RateGraph.REFUSED);
        check.due("new: nested", graph.nested(), RateGraph.STATE);
        check.due("new: run(1)", graph.run(1), RateGraph.STATE);
        check.due("new: schedule(0)", graph.schedule(0), RateGraph.STATE);
        check.due("new: solve(0)", graph.solve(0), RateGraph.STATE);
    }

    private static void objectsAreApart() {
        RateGraph first = Graphs.withActors(0, 1);
        first.edge(0, 1, 1, 1, 0);
        RateGraph second = new RateGraph();
        check.due("second object: count(0)", second.count(0), 0);
        check.due("second object: count(1)", second.count(1), 0);
        check.due("first object: count(0)", first.count(0), 2);
    }

    private static void actorTakesAllThatIsInRange() {
        RateGraph graph = new RateGraph();
        for (int a = 0; a <= 7; a++) {
            check.due("actor(" + a + ")", graph.actor(a, a % 4, a - 4), RateGraph.DONE);
            check.due("count(0)", graph.count(0), a + 1);
        }
        check.due("least parameter", graph.actor(0, 0, Integer.MIN_VALUE), RateGraph.DONE);
        check.due("greatest parameter", graph.actor(1, 0, Integer.MAX_VALUE), RateGraph.DONE);
        check.due("count(0) after actors again", graph.count(0), 8);
        check.due("solve", graph.solve(0), 8);
        graph.run(1);
        check.due("latest of the least parameter", graph.latest(0), Integer.MIN_VALUE);
        check.due("latest of the greatest parameter", graph.latest(1), Integer.MAX_VALUE);
    }

    private static void actorRefusesOtherNumbers() {
        RateGraph graph = Graphs.withActors(0, 1);
        graph.solve(0);
        int[] wrong = {-1, 8, Integer.MIN_VALUE, Integer.MAX_VALUE};
        for (int number : wrong) {
            check.due("actor(" + number + ", 0, 0)", graph.actor(number, 0, 0), RateGraph.REFUSED);
        }
        check.due("actor(0, -1, 9)", graph.actor(0, -1, 9), RateGraph.REFUSED);
        check.due("actor(0, 4, 9)", graph.actor(0, 4, 9), RateGraph.REFUSED);
        check.due("actor(2, 4, 9)", graph.actor(2, 4, 9), RateGraph.REFUSED);
        check.due("count(0) after refused ones", graph.count(0), 2);
        check.due("SOLVED after refused ones", graph.count(3), 1);
        graph.run(1);
        check.due("parameter after refused ones", graph.latest(0), 1);
    }

    private static void actorAgainKeepsEdgesAndChangesTheGraph() {
        RateGraph graph = Graphs.withActors(0, 1);
        graph.edge(0, 1, 2, 1, 3);
        graph.solve(0);
        check.due("actor again", graph.actor(1, 1, 7), RateGraph.DONE);
        check.due("edges after actor again", graph.count(1), 1);
        check.due("SOLVED after actor again", graph.count(3), 0);
        check.due("solve after actor again", graph.solve(0), 3);
        check.due("tokens after actor again", graph.tokens(0), 3);
        check.due("a new actor", graph.actor(5, 0, 0), RateGraph.DONE);
        check.due("SOLVED after a new actor", graph.count(3), 0);
        check.due("solve after a new actor", graph.solve(0), 4);
    }

    private static void edgeAnswersItsNumber() {
        RateGraph graph = Graphs.withActors(0, 1);
        check.due("first edge", graph.edge(0, 1, 1, 1, 0), 0);
        check.due("the other way", graph.edge(1, 0, 6, 6, 12), 1);
        check.due("to itself", graph.edge(1, 1, 6, 6, 6), 2);
        check.due("a second one of the same", graph.edge(0, 1, 1, 1, 0), 3);
        check.due("count(1)", graph.count(1), 4);
        check.due("solve", graph.solve(0), 2);
        check.due("delay of edge 1", graph.tokens(1), 12);
        check.due("delay of edge 2", graph.tokens(2), 6);
        check.due("delay of edge 3", graph.tokens(3), 0);
    }

    private static void edgeRefuses() {
        RateGraph graph = Graphs.withActors(0, 1);
        graph.solve(0);
        int[][] wrong = {
            {2, 0, 1, 1, 0}, {0, 2, 1, 1, 0}, {-1, 0, 1, 1, 0}, {0, -1, 1, 1, 0}, {8, 0, 1, 1, 0}, {0, 8, 1, 1, 0},
            {0, 1, 0, 1, 0}, {0, 1, 7, 1, 0}, {0, 1, 1, 0, 0}, {0, 1, 1, 7, 0}, {0, 1, 1, 1, -1}, {0, 1, 1, 1, 13},
            {0, 1, Integer.MIN_VALUE, 1, 0}, {0, 1, 1, Integer.MAX_VALUE, 0}, {0, 1, 1, 1, Integer.MAX_VALUE},
        };
        for (int[] w : wrong) {
            check.due("edge" + java.util.Arrays.toString(w), graph.edge(w[0], w[1], w[2], w[3], w[4]), RateGraph.REFUSED);
        }
        check.due("edges after refused ones", graph.count(1), 0);
        check.due("SOLVED after refused ones", graph.count(3), 1);
    }

    private static void edgeIsFullAtTwelve() {
        RateGraph graph = Graphs.withActors(0, 1);
        for (int e = 0; e < 12; e++) {
            check.due("edge " + e, graph.edge(0, 1, 1, 1, e), e);
        }
        graph.solve(0);
        check.due("a thirteenth edge", graph.edge(0, 1, 1, 1, 0), RateGraph.FULL);
        check.due("wrong numbers come before FULL", graph.edge(0, 1, 7, 1, 0), RateGraph.REFUSED);
        check.due("missing actors come before FULL", graph.edge(0, 3, 1, 1, 0), RateGraph.REFUSED);
        check.due("count(1) when full", graph.count(1), 12);
        check.due("SOLVED after FULL", graph.count(3), 1);
        check.due("delay of the last edge", graph.tokens(11), 11);
    }

    private static void edgeChangesTheGraph() {
        RateGraph graph = Graphs.withActors(0, 1);
        graph.solve(0);
        graph.edge(0, 1, 1, 1, 0);
        check.due("SOLVED after edge", graph.count(3), 0);
        check.due("tokens after edge", graph.tokens(0), RateGraph.STATE);
    }

    private static void unedgeMovesLaterOnesDown() {
        RateGraph graph = Graphs.withActors(0, 1);
        for (int e = 0; e < 5; e++) {
            graph.edge(0, 1, 1, 1, e + 1);
        }
        graph.solve(0);
        check.due("unedge(1)", graph.unedge(1), 4);
        check.due("SOLVED after unedge", graph.count(3), 0);
        graph.solve(0);
        int[] delays = {1, 3, 4, 5};
        for (int e = 0; e < 4; e++) {
            check.due("delay of edge " + e, graph.tokens(e), delays[e]);
        }
        check.due("unedge of the last one", graph.unedge(3), 3);
        check.due("unedge of the first one", graph.unedge(0), 2);
        graph.solve(0);
        check.due("delay of edge 0 at the end", graph.tokens(0), 3);
        check.due("delay of edge 1 at the end", graph.tokens(1), 4);
        check.due("no edge 2 at the end", graph.tokens(2), RateGraph.REFUSED);
    }

    private static void unedgeRefuses() {
        RateGraph graph = Graphs.withActors(0, 1);
        graph.edge(0, 1, 1, 1, 2);
        graph.solve(0);
        check.due("unedge(-1)", graph.unedge(-1), RateGraph.REFUSED);
        check.due("unedge(1)", graph.unedge(1), RateGraph.REFUSED);
        check.due("unedge(12)", graph.unedge(12), RateGraph.REFUSED);
        check.due("unedge(least)", graph.unedge(Integer.MIN_VALUE), RateGraph.REFUSED);
        check.due("SOLVED after refused ones", graph.count(3), 1);
        check.due("edges after refused ones", graph.count(1), 1);
        check.due("unedge(0)", graph.unedge(0), 0);
        check.due("unedge(0) again", graph.unedge(0), RateGraph.REFUSED);
    }

    private static void unedgeLeavesRoomForNewOnes() {
        RateGraph graph = Graphs.withActors(0, 1);
        for (int e = 0; e < 12; e++) {
            graph.edge(0, 1, 1, 1, e);
        }
        check.due("unedge(4) of twelve", graph.unedge(4), 11);
        check.due("a new twelfth edge", graph.edge(1, 0, 2, 2, 12), 11);
        check.due("a new thirteenth edge", graph.edge(1, 0, 2, 2, 12), RateGraph.FULL);
        graph.solve(0);
        check.due("delay of the new one", graph.tokens(11), 12);
        check.due("delay of the one before", graph.tokens(10), 11);
        check.due("delay of the one that moved", graph.tokens(4), 5);
    }
}
