/** Long runs of calls, each with the same call on the model; the numbers come from a generator of the test's own. */
public final class ModelTest {
    private static final int OBJECTS = 3000;
    private static final int CALLS = 60;
    // Nothing is promised after the 512th call; the look at all at the end takes 336, and one look before it at most 8.
    private static final int MOST_CALLS_BEFORE = 512 - 336 - 8;
    private static final Check check = new Check();

    private long seed = 20261115;
    private RateGraph graph;
    private GraphModel model;
    private String title;
    private int calls;
    private boolean upwards;
    private int[] weight;

    private int solvedOnes;
    private int inconsistentOnes;
    private int bigOnes;
    private int deadlocks;
    private int nestedOnes;

    public static void main(String[] args) {
        ModelTest test = new ModelTest();
        for (int object = 0; object < OBJECTS; object++) {
            test.runOneObject(object);
        }
        test.everyAnswerWasSeen();
        check.end();
    }

    private int below(int bound) {
        seed = seed * 6364136223846793005L + 1442695040888963407L;
        return (int) ((seed >>> 33) % bound);
    }

    private void runOneObject(int object) {
        graph = new RateGraph();
        model = new GraphModel();
        title = "object " + object + ", ";
        calls = 0;
        upwards = below(3) == 0;
        int[] numbers = {1, 1, 2, 2, 3, 4, 5, 6, 8, 12, 15, 20};
        weight = new int[8];
        for (int a = 0; a < 8; a++) {
            weight[a] = numbers[below(numbers.length)];
        }
        int actors = 1 + below(8);
        for (int i = 0; i < actors; i++) {
            callActor(below(8));
        }
        for (int call = 0; call < CALLS && calls <= MOST_CALLS_BEFORE; call++) {
            callOne();
        }
        lookAtAll();
    }

    private void due(String call, long got, long want) {
        calls++;
        check.due(call, got, want);
    }

    private void callOne() {
        int which = below(20);
        if (which < 8) {
            callEdge();
        } else if (which < 9) {
            callUnedge();
        } else if (which < 10) {
            callActor(below(10) - 1);
        } else if (which < 14) {
            callSolve();
        } else if (which < 17) {
            int periods = below(10);
            due(title + "run(" + periods + ")", graph.run(periods), model.run(periods));
        } else {
            lookAtSome();
        }
    }

    private void callActor(int a) {
        int kind = below(5) == 0 ? below(6) - 1 : below(4);
        int parameter = below(4) == 0 ? below(Integer.MAX_VALUE) * 2 - 7 : below(9) - 4;
        due(title + "actor(" + a + ", " + kind + ", " + parameter + ")",
            graph.actor(a, kind, parameter), model.actor(a, kind, parameter));
    }

    /** Mostly an edge whose rates fit the weights, so that many graphs are CONSISTENT. */
    private void callEdge() {
        int from = below(8);
        int to = below(8);
        if (upwards && from > to) {
            int greater = from;
            from = to;
            to = greater;
        }
        int in = below(8);
        int out = below(8);
        if (below(16) != 0) {
            int divisor = 1;
            for (int d = 1; d <= 20; d++) {
                divisor = weight[from] % d == 0 && weight[to] % d == 0 ? d : divisor;
            }
            in = weight[to] / divisor;
            out = weight[from] / divisor;
        }
        int delay = upwards && from != to && below(20) != 0 ? 0 : below(15) - 1;
        due(title + "edge(" + from + ", " + to + ", " + in + ", " + out + ", " + delay + ")",
            graph.edge(from, to, in, out, delay), model.edge(from, to, in, out, delay));
    }

    private void callUnedge() {
        int e = below(14) - 1;
        due(title + "unedge(" + e + ")", graph.unedge(e), model.unedge(e));
    }

    private void callSolve() {
        int policy = below(20) == 0 ? below(5) - 1 : below(3);
        int want = model.solve(policy);
        due(title + "solve(" + policy + ")", graph.solve(policy), want);
        solvedOnes += want > 1 ? 1 : 0;
        bigOnes += want == RateGraph.BIG ? 1 : 0;
        inconsistentOnes += want <= RateGraph.INCONSISTENT && want > RateGraph.DEADLOCK ? 1 : 0;
        deadlocks += want <= RateGraph.DEADLOCK ? 1 : 0;
    }

    private void lookAtSome() {
        int number = below(16) - 2;
        int i = below(30) - 1;
        due(title + "repetitions(" + number + ")", graph.repetitions(number), model.repetitions(number));
        due(title + "schedule(" + i + ")", graph.schedule(i), model.schedule(i));
        due(title + "peak(" + number + ")", graph.peak(number), model.peak(number));
        due(title + "latest(" + number + ")", graph.latest(number), model.latest(number));
        due(title + "token(" + number + ", " + i + ")", graph.token(number, i), model.token(number, i));
        due(title + "tokens(" + number + ")", graph.tokens(number), model.tokens(number));
        due(title + "count(" + number + ")", graph.count(number), model.count(number));
        lookAtNested();
    }

    private void lookAtNested() {
        int want = model.nested();
        due(title + "nested()", graph.nested(), want);
        nestedOnes += want > 0 ? 1 : 0;
    }

    private void lookAtAll() {
        for (int what = -1; what <= 9; what++) {
            due(title + "count(" + what + ")", graph.count(what), model.count(what));
        }
        for (int a = -1; a <= 8; a++) {
            due(title + "repetitions(" + a + ")", graph.repetitions(a), model.repetitions(a));
            due(title + "latest(" + a + ")", graph.latest(a), model.latest(a));
        }
        for (int i = -1; i <= 64; i++) {
            due(title + "schedule(" + i + ")", graph.schedule(i), model.schedule(i));
        }
        for (int e = -1; e <= 12; e++) {
            due(title + "peak(" + e + ")", graph.peak(e), model.peak(e));
            due(title + "tokens(" + e + ")", graph.tokens(e), model.tokens(e));
            for (int i = -1; i <= 13; i++) {
                due(title + "token(" + e + ", " + i + ")", graph.token(e, i), model.token(e, i));
            }
        }
        lookAtNested();
    }

    /** A generator that never reaches a kind of answer would test nothing of it. */
    private void everyAnswerWasSeen() {
        System.out.println("solved " + solvedOnes + ", inconsistent " + inconsistentOnes + ", big " + bigOnes
            + ", deadlocks " + deadlocks + ", nested " + nestedOnes);
        int fewest = Math.min(Math.min(solvedOnes, inconsistentOnes), Math.min(bigOnes, Math.min(deadlocks, nestedOnes)));
        check.due("each kind of answer was seen often enough", fewest >= 50 ? 1 : 0, 1);
    }
}
