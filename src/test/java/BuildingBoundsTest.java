/** The sentences of the promises 1 to 4 that name a bound: each is told above the test that holds it. */
public final class BuildingBoundsTest {
    private static final int LEAST = Integer.MIN_VALUE;
    private static final int GREATEST = Integer.MAX_VALUE;
    private static final Check check = new Check();

    public static void main(String[] args) {
        aNewObjectHasNothing();
        actorNumbers();
        actorKinds();
        actorParameters();
        actorThatWasThereKeepsItsEdges();
        refusedActorStaysAsItWas();
        edgeNeedsBothActors();
        edgeRates();
        edgeDelays();
        edgesAreNumberedFromZero();
        edgeTwelveIsFull();
        fullTestsTheNumbersFirst();
        unedgeOfEveryEdgeOfEveryNumber();
        unedgeOfTheFullGraphMakesRoomForOne();
        unedgeDownToNothing();
        check.end();
    }

    /** "No actors and edges." */
    private static void aNewObjectHasNothing() {
        RateGraph graph = new RateGraph();
        check.due("new: actors", graph.count(0), 0);
        check.due("new: edges", graph.count(1), 0);
        for (int a = 0; a <= 7; a++) {
            check.due("new: repetitions(" + a + ")", graph.repetitions(a), RateGraph.REFUSED);
            check.due("new: edge from and to " + a, graph.edge(a, a, 1, 1, 1), RateGraph.REFUSED);
        }
        for (int e = 0; e <= 12; e++) {
            check.due("new: unedge(" + e + ")", graph.unedge(e), RateGraph.REFUSED);
        }
    }

    /** "Actor a (0 .. 7) is there .. DONE; else REFUSED." */
    private static void actorNumbers() {
        int[] numbers = {LEAST, -8, -1, 0, 1, 2, 3, 4, 5, 6, 7, 8, 16, GREATEST};
        for (int a : numbers) {
            RateGraph graph = new RateGraph();
            boolean good = a >= 0 && a <= 7;
            check.due("actor(" + a + ", 0, 0)", graph.actor(a, 0, 0), good ? RateGraph.DONE : RateGraph.REFUSED);
            check.due("actors after actor " + a, graph.count(0), good ? 1 : 0);
            check.due("solve after actor " + a, graph.solve(0), good ? 1 : RateGraph.STATE);
            check.due("schedule(0) after actor " + a, graph.schedule(0), good ? a : RateGraph.STATE);
        }
    }

    /** "with KIND 0 .. 3 .. else REFUSED": the four kinds give 6 after 5 and the PARAMETER 10 four answers. */
    private static void actorKinds() {
        long[] latest = {16, 60, 11, 1};
        int[] kinds = {LEAST, -1, 0, 1, 2, 3, 4, GREATEST};
        for (int kind : kinds) {
            RateGraph graph = new RateGraph();
            graph.actor(0, 0, 5);
            boolean good = kind >= 0 && kind <= 3;
            check.due("actor(1, " + kind + ", 10)", graph.actor(1, kind, 10), good ? RateGraph.DONE : RateGraph.REFUSED);
            check.due("actors after kind " + kind, graph.count(0), good ? 2 : 1);
            check.due("edge after kind " + kind, graph.edge(0, 1, 2, 1, 0), good ? 0 : RateGraph.REFUSED);
            graph.solve(0);
            graph.run(1);
            check.due("latest of kind " + kind, graph.latest(1), good ? latest[kind] : RateGraph.NONE);
        }
    }

    /** "a PARAMETER, an int": each int is good. */
    private static void actorParameters() {
        int[] parameters = {LEAST, LEAST + 1, -1, 0, 1, GREATEST - 1, GREATEST};
        for (int parameter : parameters) {
            RateGraph graph = new RateGraph();
            check.due("actor(7, 0, " + parameter + ")", graph.actor(7, 0, parameter), RateGraph.DONE);
            graph.solve(0);
            graph.run(1);
            check.due("latest of PARAMETER " + parameter, graph.latest(7), parameter);
        }
    }

    /** "also if it was (its edges stay): DONE" */
    private static void actorThatWasThereKeepsItsEdges() {
        RateGraph graph = Graphs.full();
        graph.solve(0);
        graph.run(3);
        for (int a = 0; a <= 7; a++) {
            check.due("actor " + a + " again", graph.actor(a, a % 4, a + 1), RateGraph.DONE);
        }
        check.due("actors after all again", graph.count(0), 8);
        check.due("edges after all again", graph.count(1), 12);
        check.due("parts after all again", graph.count(2), 1);
        RateGraph plain = Graphs.full();
        check.due("solve after all again", graph.solve(0), plain.solve(0));
        graph.run(2);
        plain.run(2);
        check.dueText("all after all again", Answers.of(graph), Answers.of(plain));

        RateGraph other = Graphs.withEdges(12);
        check.due("actor 1 with another KIND", other.actor(1, 2, 99), RateGraph.DONE);
        check.due("solve", other.solve(0), 2);
        other.run(1);
        check.due("KIND 2 instead of 0 and 1", other.latest(1), 0);
    }

    /** "else REFUSED": of an actor that is there too, whose KIND and PARAMETER then stay. */
    private static void refusedActorStaysAsItWas() {
        RateGraph graph = new RateGraph();
        graph.actor(0, 0, 41);
        check.due("actor(0, -1, 9)", graph.actor(0, -1, 9), RateGraph.REFUSED);
        check.due("actor(0, 4, 9)", graph.actor(0, 4, 9), RateGraph.REFUSED);
        check.due("actor(8, 1, 9)", graph.actor(8, 1, 9), RateGraph.REFUSED);
        check.due("solve", graph.solve(0), 1);
        graph.run(1);
        check.due("latest after refused ones", graph.latest(0), 41);
    }

    /** "Both actors there .. else REFUSED": with the first, a middle and the last actor. */
    private static void edgeNeedsBothActors() {
        int[] numbers = {LEAST, -1, 0, 1, 2, 3, 4, 5, 6, 7, 8, GREATEST};
        for (int from : numbers) {
            for (int to : numbers) {
                RateGraph graph = Graphs.withActors(0, 3, 7);
                boolean good = isOneOfThree(from) && isOneOfThree(to);
                String call = "edge(" + from + ", " + to + ", 1, 1, 1)";
                check.due(call, graph.edge(from, to, 1, 1, 1), good ? 0 : RateGraph.REFUSED);
                check.due("edges after " + call, graph.count(1), good ? 1 : 0);
                check.due("parts after " + call, graph.count(2), good && from != to ? 2 : 3);
            }
        }
    }

    private static boolean isOneOfThree(int a) {
        return a == 0 || a == 3 || a == 7;
    }

    /** "rates 1 .. 6 .. else REFUSED": the REPETITIONS and the PEAK tell that both rates were kept. */
    private static void edgeRates() {
        int[] rates = {LEAST, -1, 0, 1, 2, 3, 4, 5, 6, 7, GREATEST};
        int[][] divisors = {{1, 1, 1, 1, 1, 1}, {1, 2, 1, 2, 1, 2}, {1, 1, 3, 1, 1, 3},
            {1, 2, 1, 4, 1, 2}, {1, 1, 1, 1, 5, 1}, {1, 2, 3, 2, 1, 6}};
        for (int in : rates) {
            for (int out : rates) {
                RateGraph graph = Graphs.withActors(0, 1);
                boolean good = in >= 1 && in <= 6 && out >= 1 && out <= 6;
                String call = "edge(0, 1, " + in + ", " + out + ", 0)";
                check.due(call, graph.edge(0, 1, in, out, 0), good ? 0 : RateGraph.REFUSED);
                check.due("edges after " + call, graph.count(1), good ? 1 : 0);
                graph.solve(0);
                int divisor = good ? divisors[in - 1][out - 1] : 1;
                check.due("repetitions(0) after " + call, graph.repetitions(0), good ? out / divisor : 1);
                check.due("repetitions(1) after " + call, graph.repetitions(1), good ? in / divisor : 1);
                check.due("peak(0) after " + call, graph.peak(0), good ? in * out / divisor : RateGraph.REFUSED);
            }
        }
    }

    /** "delay 0 .. 12, else REFUSED", and "so many tokens 0 are on it at first". */
    private static void edgeDelays() {
        int[] others = {LEAST, -2, -1, 13, 14, GREATEST};
        for (int delay : others) {
            RateGraph graph = Graphs.withActors(0, 1);
            check.due("delay " + delay, graph.edge(0, 1, 1, 1, delay), RateGraph.REFUSED);
            check.due("edges after delay " + delay, graph.count(1), 0);
        }
        for (int delay = 0; delay <= 12; delay++) {
            RateGraph graph = Graphs.withActors(0, 1);
            check.due("delay " + delay, graph.edge(0, 1, 1, 1, delay), 0);
            graph.solve(0);
            check.due("tokens of delay " + delay, graph.tokens(0), delay);
            for (int i = 0; i < delay; i++) {
                check.due("token(0, " + i + ") of delay " + delay, graph.token(0, i), 0);
            }
            check.due("the token after delay " + delay, graph.token(0, delay), RateGraph.NONE);
        }
    }

    /** "EDGES are numbered 0, 1, .. (at most 12)", and "Answers its number." */
    private static void edgesAreNumberedFromZero() {
        RateGraph graph = Graphs.withActors(0, 7);
        for (int e = 0; e < 12; e++) {
            check.due("edge " + e, graph.edge(e % 2 == 0 ? 0 : 7, e % 3 == 0 ? 0 : 7, 6, 6, 12), e);
            check.due("edges after edge " + e, graph.count(1), e + 1);
        }
    }

    /** "12 edges: FULL." */
    private static void edgeTwelveIsFull() {
        RateGraph graph = Graphs.withEdges(11);
        check.due("the twelfth edge", graph.edge(0, 1, 1, 1, 12), 11);
        check.due("the thirteenth edge", graph.edge(0, 1, 1, 1, 0), RateGraph.FULL);
        check.due("the thirteenth edge again", graph.edge(1, 1, 6, 6, 12), RateGraph.FULL);
        check.due("edges when full", graph.count(1), 12);
        graph.solve(0);
        for (int e = 0; e < 12; e++) {
            check.due("delay of edge " + e + " when full", graph.tokens(e), e + 1);
        }
        check.due("no edge 12", graph.tokens(12), RateGraph.REFUSED);
    }

    /** "Numbers are tested first": before FULL. */
    private static void fullTestsTheNumbersFirst() {
        RateGraph graph = Graphs.withEdges(12);
        int[][] wrong = {{-1, 1, 1, 1, 0}, {2, 1, 1, 1, 0}, {8, 1, 1, 1, 0}, {0, -1, 1, 1, 0}, {0, 2, 1, 1, 0}, {0, 8, 1, 1, 0},
            {0, 1, 0, 1, 0}, {0, 1, 7, 1, 0}, {0, 1, 1, 0, 0}, {0, 1, 1, 7, 0}, {0, 1, 1, 1, -1}, {0, 1, 1, 1, 13}};
        for (int[] w : wrong) {
            check.due("when full: edge" + java.util.Arrays.toString(w),
                graph.edge(w[0], w[1], w[2], w[3], w[4]), RateGraph.REFUSED);
        }
        check.due("when full: a good edge", graph.edge(0, 1, 1, 1, 0), RateGraph.FULL);
    }

    /** "Takes edge e away, later ones move down by one; no such edge: REFUSED. Answers how many are left." */
    private static void unedgeOfEveryEdgeOfEveryNumber() {
        for (int edges = 0; edges <= 12; edges++) {
            int[] wrong = {LEAST, -1, edges, edges + 1, 12, 13, GREATEST};
            for (int e : wrong) {
                RateGraph graph = Graphs.withEdges(edges);
                check.due("unedge(" + e + ") of " + edges, graph.unedge(e), RateGraph.REFUSED);
                check.due("edges after unedge(" + e + ") of " + edges, graph.count(1), edges);
            }
            for (int e = 0; e < edges; e++) {
                RateGraph graph = Graphs.withEdges(edges);
                String call = "unedge(" + e + ") of " + edges;
                check.due(call, graph.unedge(e), edges - 1);
                check.due("edges after " + call, graph.count(1), edges - 1);
                graph.solve(0);
                for (int i = 0; i < edges - 1; i++) {
                    check.due("delay of edge " + i + " after " + call, graph.tokens(i), i < e ? i + 1 : i + 2);
                }
                check.due("the last edge after " + call, graph.tokens(edges - 1), RateGraph.REFUSED);
            }
        }
    }

    /** "at most 12": of the full graph each edge can be taken away, and then one new one has room. */
    private static void unedgeOfTheFullGraphMakesRoomForOne() {
        for (int e = 0; e < 12; e++) {
            RateGraph graph = Graphs.withEdges(12);
            graph.solve(0);
            graph.run(8);
            check.due("unedge(" + e + ") of 12", graph.unedge(e), 11);
            check.due("the new edge after unedge " + e, graph.edge(1, 0, 2, 2, 2), 11);
            check.due("one more after unedge " + e, graph.edge(1, 0, 2, 2, 2), RateGraph.FULL);
            check.due("solve after unedge " + e, graph.solve(0), 2);
            check.due("tokens of the new edge", graph.tokens(11), 2);
            check.due("first token of the new edge", graph.token(11, 0), 0);
            check.due("second token of the new edge", graph.token(11, 1), 0);
            check.due("peak of the new edge", graph.peak(11), 2);
        }
    }

    /** "Answers how many are left.": down to 0, and then "no such edge: REFUSED". */
    private static void unedgeDownToNothing() {
        RateGraph graph = Graphs.withEdges(12);
        for (int left = 11; left >= 0; left--) {
            check.due("unedge(0) with " + left + " left", graph.unedge(0), left);
        }
        check.due("unedge(0) of none", graph.unedge(0), RateGraph.REFUSED);
        check.due("parts without edges", graph.count(2), 2);
        check.due("solve without edges", graph.solve(0), 2);
        check.due("an edge again", graph.edge(0, 1, 1, 1, 0), 0);
    }
}
