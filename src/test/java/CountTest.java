/** Promise 14: count. */
public final class CountTest {
    private static final Check check = new Check();

    public static void main(String[] args) {
        otherNumbersAreRefused();
        partsHangTogetherByEdges();
        allCountsOfASolvedGraph();
        countsOfAnUnsolvedGraph();
        runsAreLongestStretches();
        check.end();
    }

    private static void otherNumbersAreRefused() {
        RateGraph graph = Graphs.withActors(0);
        int[] wrong = {-1, 9, 10, Integer.MIN_VALUE, Integer.MAX_VALUE};
        for (int what : wrong) {
            check.due("count(" + what + ") not SOLVED", graph.count(what), RateGraph.REFUSED);
        }
        graph.solve(0);
        for (int what : wrong) {
            check.due("count(" + what + ")", graph.count(what), RateGraph.REFUSED);
        }
    }

    private static void partsHangTogetherByEdges() {
        RateGraph graph = Graphs.withActors(0, 1, 2, 3, 4, 7);
        check.due("parts without edges", graph.count(2), 6);
        graph.edge(7, 7, 1, 2, 0);
        check.due("parts with a loop", graph.count(2), 6);
        graph.edge(3, 0, 1, 1, 0);
        graph.edge(0, 3, 1, 2, 0);
        check.due("parts with two edges between two", graph.count(2), 5);
        graph.edge(1, 2, 1, 1, 0);
        graph.edge(2, 4, 1, 1, 0);
        check.due("parts with a chain", graph.count(2), 3);
        graph.edge(4, 3, 1, 1, 0);
        check.due("parts that are joined", graph.count(2), 2);
        graph.edge(1, 0, 1, 1, 0);
        check.due("parts with a ring", graph.count(2), 2);
        graph.unedge(5);
        check.due("parts that still hang by the ring", graph.count(2), 2);
        graph.unedge(5);
        check.due("parts that are apart again", graph.count(2), 3);
    }

    private static void allCountsOfASolvedGraph() {
        RateGraph graph = Graphs.withActors(1, 3, 6);
        graph.edge(1, 3, 3, 1, 2);
        graph.edge(3, 3, 2, 2, 4);
        graph.solve(1);
        // Policy 1 takes 3 first (one token less), twice, then 6, then 1, then 3.
        check.dueSchedule("policy 1", graph, "33613");
        int[] want = {3, 2, 2, 1, 5, 4, 3 + 4, 0, 6};
        for (int what = 0; what <= 8; what++) {
            check.due("count(" + what + ")", graph.count(what), want[what]);
        }
        graph.run(2);
        graph.run(1);
        check.due("count(7) after runs", graph.count(7), 15);
        check.due("count(8) after runs", graph.count(8), 6);
        check.due("count(2) leaves all as it is", graph.count(2), 2);
        check.due("repetitions after count(2)", graph.repetitions(3), 3);
        check.due("run after count(2)", graph.run(1), 5);
    }

    private static void countsOfAnUnsolvedGraph() {
        RateGraph graph = Graphs.withActors(1, 3, 6);
        graph.edge(1, 3, 3, 1, 2);
        graph.solve(0);
        graph.run(1);
        graph.actor(6, 1, 1);
        int[] want = {3, 1, 2, 0, 0, 0, 0, 0, 0};
        for (int what = 0; what <= 8; what++) {
            check.due("unsolved: count(" + what + ")", graph.count(what), want[what]);
        }
    }

    private static void runsAreLongestStretches() {
        RateGraph graph = Graphs.withActors(0);
        graph.solve(0);
        check.due("runs of one firing", graph.count(5), 1);
        RateGraph chain = Graphs.withActors(0, 1, 2);
        chain.edge(0, 1, 2, 1, 0);
        chain.edge(1, 2, 1, 1, 0);
        chain.solve(0);
        check.dueSchedule("policy 0", chain, "01122");
        check.due("runs, policy 0", chain.count(5), 3);
        chain.solve(1);
        check.dueSchedule("policy 1", chain, "01212");
        check.due("runs, policy 1", chain.count(5), 5);
    }
}
