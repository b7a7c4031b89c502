import java.util.ArrayList;
import java.util.List;
import java.util.function.Supplier;
import java.util.function.ToLongFunction;

/**
 * "Numbers are tested first; a refused call changes nothing." Each call that is refused, and each call that only looks,
 * is made on a fresh object in several states; what the object answers from then on is what a twin without the call answers.
 */
public final class RefusedTest {
    private static final int LEAST = Integer.MIN_VALUE;
    private static final int GREATEST = Integer.MAX_VALUE;
    private static final Check check = new Check();

    private record Call(String name, long want, ToLongFunction<RateGraph> on) { }

    private record Start(String name, Supplier<RateGraph> make) { }

    public static void main(String[] args) {
        Start empty = new Start("empty", RateGraph::new);
        Start built = new Start("built", RefusedTest::built);
        Start solved = new Start("solved", RefusedTest::solved);
        Start running = new Start("running", RefusedTest::running);
        Start full = new Start("full", RefusedTest::fullAndRunning);
        Start inconsistent = new Start("inconsistent", () -> failed(0, 1, 1, 1));
        Start deadlocked = new Start("deadlocked", () -> failed(0, 0, 1, 1));
        Start big = new Start("big", RefusedTest::big);
        List<Start> all = List.of(empty, built, solved, running, full, inconsistent, deadlocked, big);

        callsChangeNothing(all, outOfRange());
        callsChangeNothing(List.of(empty), ofTheEmptyGraph());
        callsChangeNothing(List.of(built, inconsistent, deadlocked, big), whileNotSolved());
        callsChangeNothing(List.of(built, solved, running, inconsistent, deadlocked), withActorThreeAbsent());
        callsChangeNothing(List.of(built, solved, running), withFourEdges());
        callsChangeNothing(List.of(solved, running), placesThatAreNotThere());
        callsChangeNothing(List.of(full), whileFull());
        lookingChangesNothing(all);
        check.end();
    }

    /** Actors 0, 1, 2 and 4 of the four kinds, REPETITIONS 3 2 8 4, and edges that keep tokens. */
    private static RateGraph built() {
        RateGraph graph = new RateGraph();
        graph.actor(0, 0, 5);
        graph.actor(1, 1, 3);
        graph.actor(2, 2, 0);
        graph.actor(4, 3, -2);
        graph.edge(0, 1, 2, 3, 1);
        graph.edge(1, 2, 4, 1, 0);
        graph.edge(2, 4, 1, 2, 3);
        graph.edge(4, 4, 2, 2, 4);
        return graph;
    }

    private static RateGraph solved() {
        RateGraph graph = built();
        graph.solve(0);
        return graph;
    }

    private static RateGraph running() {
        RateGraph graph = solved();
        graph.run(2);
        return graph;
    }

    private static RateGraph fullAndRunning() {
        RateGraph graph = Graphs.full();
        graph.solve(1);
        graph.run(3);
        return graph;
    }

    /** A solved graph that a last edge spoils. */
    private static RateGraph failed(int from, int to, int in, int out) {
        RateGraph graph = running();
        graph.edge(from, to, in, out, 0);
        graph.solve(0);
        return graph;
    }

    private static RateGraph big() {
        RateGraph graph = Graphs.withSumOf61And(2);
        graph.actor(5, 0, 0);
        graph.edge(0, 5, 2, 1, 0);
        graph.solve(0);
        return graph;
    }

    private static List<Call> outOfRange() {
        List<Call> calls = new ArrayList<>();
        int[] belowZero = {LEAST, -1};
        for (int n : belowZero) {
            calls.add(new Call("actor(" + n + ", 0, 9)", RateGraph.REFUSED, g -> g.actor(n, 0, 9)));
            calls.add(new Call("actor(0, " + n + ", 9)", RateGraph.REFUSED, g -> g.actor(0, n, 9)));
            calls.add(new Call("actor(7, " + n + ", 9)", RateGraph.REFUSED, g -> g.actor(7, n, 9)));
            addWrongEdges(calls, n, n, n);
            addWrongNumbers(calls, n, n, n, n, n, n);
            calls.add(new Call("token(0, " + n + ")", RateGraph.NONE, g -> g.token(0, n)));
        }
        addWrongEdges(calls, 8, 0, 13);
        addWrongEdges(calls, GREATEST, 7, GREATEST);
        addWrongNumbers(calls, 8, 12, 3, 0, 9, GREATEST);
        addWrongNumbers(calls, GREATEST, GREATEST, GREATEST, 9, GREATEST, 13);
        calls.add(new Call("actor(8, 0, 9)", RateGraph.REFUSED, g -> g.actor(8, 0, 9)));
        calls.add(new Call("actor(8, 4, 9)", RateGraph.REFUSED, g -> g.actor(8, 4, 9)));
        calls.add(new Call("actor(0, 4, 9)", RateGraph.REFUSED, g -> g.actor(0, 4, 9)));
        calls.add(new Call("actor(7, 4, 9)", RateGraph.REFUSED, g -> g.actor(7, 4, 9)));
        calls.add(new Call("actor(0, greatest, 9)", RateGraph.REFUSED, g -> g.actor(0, GREATEST, 9)));
        calls.add(new Call("token(0, greatest)", RateGraph.NONE, g -> g.token(0, GREATEST)));
        return calls;
    }

    private static void addWrongEdges(List<Call> calls, int actor, int rate, int delay) {
        calls.add(new Call("edge from " + actor, RateGraph.REFUSED, g -> g.edge(actor, 0, 1, 1, 1)));
        calls.add(new Call("edge to " + actor, RateGraph.REFUSED, g -> g.edge(0, actor, 1, 1, 1)));
        calls.add(new Call("edge with in " + rate, RateGraph.REFUSED, g -> g.edge(0, 0, rate, 1, 1)));
        calls.add(new Call("edge with out " + rate, RateGraph.REFUSED, g -> g.edge(0, 0, 1, rate, 1)));
        calls.add(new Call("edge with delay " + delay, RateGraph.REFUSED, g -> g.edge(0, 0, 1, 1, delay)));
    }

    private static void addWrongNumbers(List<Call> calls, int actor, int edge, int policy, int periods, int what, int place) {
        calls.add(new Call("unedge(" + edge + ")", RateGraph.REFUSED, g -> g.unedge(edge)));
        calls.add(new Call("solve(" + policy + ")", RateGraph.REFUSED, g -> g.solve(policy)));
        calls.add(new Call("run(" + periods + ")", RateGraph.REFUSED, g -> g.run(periods)));
        calls.add(new Call("repetitions(" + actor + ")", RateGraph.REFUSED, g -> g.repetitions(actor)));
        calls.add(new Call("peak(" + edge + ")", RateGraph.REFUSED, g -> g.peak(edge)));
        calls.add(new Call("latest(" + actor + ")", RateGraph.NONE, g -> g.latest(actor)));
        calls.add(new Call("token(" + edge + ", 0)", RateGraph.NONE, g -> g.token(edge, 0)));
        calls.add(new Call("token(0, " + place + ")", RateGraph.NONE, g -> g.token(0, place)));
        calls.add(new Call("tokens(" + edge + ")", RateGraph.REFUSED, g -> g.tokens(edge)));
        calls.add(new Call("count(" + what + ")", RateGraph.REFUSED, g -> g.count(what)));
    }

    private static List<Call> ofTheEmptyGraph() {
        return List.of(
            new Call("edge(0, 0, 1, 1, 0)", RateGraph.REFUSED, g -> g.edge(0, 0, 1, 1, 0)),
            new Call("edge(7, 7, 6, 6, 12)", RateGraph.REFUSED, g -> g.edge(7, 7, 6, 6, 12)),
            new Call("unedge(0)", RateGraph.REFUSED, g -> g.unedge(0)),
            new Call("solve(0)", RateGraph.STATE, g -> g.solve(0)),
            new Call("solve(2)", RateGraph.STATE, g -> g.solve(2)),
            new Call("run(1)", RateGraph.STATE, g -> g.run(1)),
            new Call("schedule(0)", RateGraph.STATE, g -> g.schedule(0)),
            new Call("nested()", RateGraph.STATE, g -> g.nested()),
            new Call("repetitions(0)", RateGraph.REFUSED, g -> g.repetitions(0)),
            new Call("latest(0)", RateGraph.NONE, g -> g.latest(0)),
            new Call("peak(0)", RateGraph.REFUSED, g -> g.peak(0)),
            new Call("token(0, 0)", RateGraph.NONE, g -> g.token(0, 0)),
            new Call("tokens(0)", RateGraph.REFUSED, g -> g.tokens(0)));
    }

    private static List<Call> whileNotSolved() {
        return List.of(
            new Call("run(1)", RateGraph.STATE, g -> g.run(1)),
            new Call("run(8)", RateGraph.STATE, g -> g.run(8)),
            new Call("repetitions(0)", RateGraph.STATE, g -> g.repetitions(0)),
            new Call("schedule(-1)", RateGraph.STATE, g -> g.schedule(-1)),
            new Call("schedule(0)", RateGraph.STATE, g -> g.schedule(0)),
            new Call("schedule(64)", RateGraph.STATE, g -> g.schedule(64)),
            new Call("peak(0)", RateGraph.STATE, g -> g.peak(0)),
            new Call("nested()", RateGraph.STATE, g -> g.nested()),
            new Call("latest(0)", RateGraph.NONE, g -> g.latest(0)),
            new Call("token(0, 0)", RateGraph.NONE, g -> g.token(0, 0)),
            new Call("tokens(0)", RateGraph.STATE, g -> g.tokens(0)));
    }

    private static List<Call> withActorThreeAbsent() {
        return List.of(
            new Call("edge(3, 0, 1, 1, 0)", RateGraph.REFUSED, g -> g.edge(3, 0, 1, 1, 0)),
            new Call("edge(0, 3, 1, 1, 0)", RateGraph.REFUSED, g -> g.edge(0, 3, 1, 1, 0)),
            new Call("edge(3, 3, 1, 1, 1)", RateGraph.REFUSED, g -> g.edge(3, 3, 1, 1, 1)),
            new Call("actor(3, 4, 0)", RateGraph.REFUSED, g -> g.actor(3, 4, 0)),
            new Call("repetitions(3)", RateGraph.REFUSED, g -> g.repetitions(3)),
            new Call("latest(3)", RateGraph.NONE, g -> g.latest(3)));
    }

    private static List<Call> withFourEdges() {
        return List.of(
            new Call("unedge(4)", RateGraph.REFUSED, g -> g.unedge(4)),
            new Call("peak(4)", RateGraph.REFUSED, g -> g.peak(4)),
            new Call("tokens(4)", RateGraph.REFUSED, g -> g.tokens(4)),
            new Call("token(4, 0)", RateGraph.NONE, g -> g.token(4, 0)));
    }

    private static List<Call> placesThatAreNotThere() {
        return List.of(
            new Call("schedule(least)", RateGraph.REFUSED, g -> g.schedule(LEAST)),
            new Call("schedule(-1)", RateGraph.REFUSED, g -> g.schedule(-1)),
            new Call("schedule(17)", RateGraph.REFUSED, g -> g.schedule(17)),
            new Call("schedule(greatest)", RateGraph.REFUSED, g -> g.schedule(GREATEST)),
            new Call("token(0, 1)", RateGraph.NONE, g -> g.token(0, 1)),
            new Call("token(1, 0)", RateGraph.NONE, g -> g.token(1, 0)),
            new Call("token(3, 4)", RateGraph.NONE, g -> g.token(3, 4)),
            new Call("nested() with delays", RateGraph.STATE, g -> g.nested()));
    }

    private static List<Call> whileFull() {
        return List.of(
            new Call("edge(0, 0, 1, 1, 0)", RateGraph.FULL, g -> g.edge(0, 0, 1, 1, 0)),
            new Call("edge(0, 7, 6, 1, 12)", RateGraph.FULL, g -> g.edge(0, 7, 6, 1, 12)),
            new Call("edge(7, 0, 1, 6, 5)", RateGraph.FULL, g -> g.edge(7, 0, 1, 6, 5)),
            new Call("nested() with delays", RateGraph.STATE, g -> g.nested()));
    }

    private static List<ToLongFunction<RateGraph>> looks() {
        List<ToLongFunction<RateGraph>> looks = new ArrayList<>();
        for (int n = 0; n <= 8; n++) {
            int number = n;
            looks.add(g -> g.count(number));
            looks.add(g -> g.repetitions(number));
            looks.add(g -> g.latest(number));
            looks.add(g -> g.schedule(number));
            looks.add(g -> g.peak(number));
            looks.add(g -> g.tokens(number));
            looks.add(g -> g.token(number, 0));
        }
        looks.add(g -> g.nested());
        return looks;
    }

    private static void callsChangeNothing(List<Start> starts, List<Call> calls) {
        for (Start start : starts) {
            for (Call call : calls) {
                String title = start.name + ": " + call.name;
                check.due(title, call.on.applyAsLong(start.make.get()), call.want);
                changesNothing(title, start, call.on);
            }
        }
    }

    private static void lookingChangesNothing(List<Start> starts) {
        for (Start start : starts) {
            int number = 0;
            for (ToLongFunction<RateGraph> look : looks()) {
                changesNothing(start.name + ": look " + number, start, look);
                number++;
            }
        }
    }

    private static void changesNothing(String title, Start start, ToLongFunction<RateGraph> call) {
        for (int way = 0; way <= 4; way++) {
            RateGraph twin = start.make.get();
            RateGraph graph = start.make.get();
            call.applyAsLong(graph);
            goOn(twin, way);
            goOn(graph, way);
            check.dueText(title + ", then way " + way, Answers.of(graph), Answers.of(twin));
        }
    }

    /** Ways 2 to 4 bring to light what the graph isn't asked for: kinds, parameters, rates and delays. */
    private static void goOn(RateGraph graph, int way) {
        if (way == 1) {
            graph.run(3);
        } else if (way == 2) {
            graph.solve(1);
            graph.run(2);
        } else if (way == 3) {
            graph.unedge(graph.count(1) - 1);
            graph.solve(2);
            graph.run(2);
        } else if (way == 4) {
            graph.actor(3, 2, 1);
            graph.edge(3, 3, 1, 1, 1);
            graph.solve(0);
            graph.run(1);
        }
    }
}
