/** Promises 5, 7 and 8: solve, repetitions, schedule. */
public final class SolvingTest {
    private static final Check check = new Check();

    public static void main(String[] args) {
        solveTestsThePolicyFirst();
        repetitionsAreTheLeastInEachPart();
        repetitionsRefuse();
        culpritIsTheLeastEdge();
        bigIsMoreThanSixtyFour();
        wrongsComeInTheirOrder();
        deadlockNamesTheLeastUnfinishedActor();
        failedSolveLeavesTheGraphUnsolved();
        policiesDiffer();
        policyZeroTakesTheLeast();
        policyOneTakesTheLeastOfEqualOnes();
        policyTwoGoesOnAndThenAround();
        schedulePlaces();
        check.end();
    }

    private static void solveTestsThePolicyFirst() {
        RateGraph graph = new RateGraph();
        check.due("solve(-1) of nothing", graph.solve(-1), RateGraph.REFUSED);
        check.due("solve(3) of nothing", graph.solve(3), RateGraph.REFUSED);
        for (int policy = 0; policy <= 2; policy++) {
            check.due("solve(" + policy + ") of nothing", graph.solve(policy), RateGraph.STATE);
        }
        graph.actor(3, 0, 0);
        for (int policy = 0; policy <= 2; policy++) {
            check.due("solve(" + policy + ") of one", graph.solve(policy), 1);
        }
        check.due("solve(3) when SOLVED", graph.solve(3), RateGraph.REFUSED);
        check.due("solve(least) when SOLVED", graph.solve(Integer.MIN_VALUE), RateGraph.REFUSED);
        check.due("SOLVED after refused ones", graph.count(3), 1);
    }

    private static void repetitionsAreTheLeastInEachPart() {
        RateGraph graph = Graphs.withActors(0, 1, 2, 3, 5);
        graph.edge(0, 1, 2, 4, 0);
        graph.edge(2, 3, 6, 4, 0);
        check.due("solve of three parts", graph.solve(0), 9);
        int[] want = {2, 1, 2, 3};
        for (int a = 0; a < 4; a++) {
            check.due("repetitions(" + a + ")", graph.repetitions(a), want[a]);
        }
        check.due("repetitions(5)", graph.repetitions(5), 1);

        RateGraph joined = Graphs.withActors(0, 1, 2, 3);
        joined.edge(0, 1, 2, 4, 0);
        joined.edge(2, 3, 6, 4, 0);
        joined.edge(3, 0, 2, 3, 0);
        check.due("solve of parts that are joined later", joined.solve(0), 8);
        int[] wantJoined = {2, 1, 2, 3};
        for (int a = 0; a < 4; a++) {
            check.due("joined: repetitions(" + a + ")", joined.repetitions(a), wantJoined[a]);
        }
        joined.unedge(2);
        joined.edge(3, 0, 1, 1, 0);
        check.due("solve of parts with other numbers", joined.solve(0), 19);
        int[] wantOther = {6, 3, 4, 6};
        joined.unedge(0);
        joined.edge(0, 1, 2, 4, 0);
        check.due("solve with edges in another order", joined.solve(0), 19);
        for (int a = 0; a < 4; a++) {
            check.due("other: repetitions(" + a + ")", joined.repetitions(a), wantOther[a]);
        }
    }

    private static void repetitionsRefuse() {
        RateGraph graph = Graphs.withActors(2);
        check.due("repetitions not SOLVED", graph.repetitions(2), RateGraph.STATE);
        check.due("repetitions not there, not SOLVED", graph.repetitions(3), RateGraph.REFUSED);
        graph.solve(0);
        check.due("repetitions(2)", graph.repetitions(2), 1);
        int[] wrong = {-1, 0, 3, 8, Integer.MIN_VALUE, Integer.MAX_VALUE};
        for (int a : wrong) {
            check.due("repetitions(" + a + ")", graph.repetitions(a), RateGraph.REFUSED);
        }
    }

    private static void culpritIsTheLeastEdge() {
        RateGraph loop = Graphs.withActors(0);
        loop.edge(0, 0, 2, 2, 2);
        loop.edge(0, 0, 1, 2, 12);
        loop.edge(0, 0, 1, 3, 12);
        check.due("a loop with two rates", loop.solve(0), RateGraph.INCONSISTENT - 1);

        RateGraph twice = Graphs.withActors(0, 1);
        twice.edge(0, 1, 1, 2, 0);
        twice.edge(0, 1, 2, 4, 0);
        check.due("the same ratio twice", twice.solve(0), 3);
        twice.edge(1, 0, 2, 2, 12);
        check.due("another ratio back", twice.solve(0), RateGraph.INCONSISTENT - 2);

        RateGraph late = Graphs.withActors(0, 1, 2, 3);
        late.edge(0, 1, 1, 2, 0);
        late.edge(2, 3, 1, 3, 0);
        late.edge(0, 3, 1, 1, 0);
        late.edge(1, 2, 1, 1, 0);
        late.edge(0, 0, 1, 2, 0);
        check.due("a ring that closes at edge 3", late.solve(0), RateGraph.INCONSISTENT - 3);
        late.unedge(3);
        check.due("then the loop", late.solve(0), RateGraph.INCONSISTENT - 3);
        late.unedge(3);
        check.due("then none", late.solve(0), 11);

        RateGraph full = Graphs.withActors(0, 1);
        for (int e = 0; e < 11; e++) {
            full.edge(0, 1, 1, 1, 0);
        }
        full.edge(0, 1, 1, 2, 0);
        check.due("the last of twelve", full.solve(0), RateGraph.INCONSISTENT - 11);
    }

    private static RateGraph sumOf61() {
        RateGraph graph = Graphs.withActors(0, 1, 2, 3);
        graph.edge(0, 1, 6, 1, 0);
        graph.edge(1, 2, 6, 1, 0);
        graph.edge(1, 3, 3, 1, 0);
        return graph;
    }

    private static void bigIsMoreThanSixtyFour() {
        RateGraph graph = sumOf61();
        check.due("a sum of 61", graph.solve(0), 61);
        graph.actor(4, 0, 0);
        graph.actor(5, 0, 0);
        graph.actor(6, 0, 0);
        check.due("a sum of 64", graph.solve(0), 64);
        check.due("last place of 64", graph.schedule(63), 6);
        graph.actor(7, 0, 0);
        check.due("a sum of 65", graph.solve(0), RateGraph.BIG);
        check.due("SOLVED after BIG", graph.count(3), 0);

        RateGraph most = Graphs.withActors(0, 1, 2, 3, 4, 5, 6, 7);
        for (int a = 0; a < 7; a++) {
            most.edge(a, a + 1, 6, a % 2 == 0 ? 1 : 5, 0);
        }
        check.due("far too many", most.solve(2), RateGraph.BIG);
        RateGraph steep = Graphs.withActors(0, 1, 2, 3, 4, 5, 6, 7);
        for (int a = 0; a < 7; a++) {
            steep.edge(a, a + 1, 6, 1, 0);
        }
        check.due("six to the seventh", steep.solve(1), RateGraph.BIG);
    }

    private static void wrongsComeInTheirOrder() {
        RateGraph graph = sumOf61();
        for (int a = 4; a < 8; a++) {
            graph.actor(a, 0, 0);
        }
        graph.edge(0, 0, 1, 1, 0);
        check.due("BIG comes before DEADLOCK", graph.solve(0), RateGraph.BIG);
        graph.edge(7, 7, 1, 2, 0);
        check.due("INCONSISTENT comes before BIG", graph.solve(0), RateGraph.INCONSISTENT - 4);
        check.due("REFUSED comes before INCONSISTENT", graph.solve(-1), RateGraph.REFUSED);
    }

    private static void deadlockNamesTheLeastUnfinishedActor() {
        RateGraph graph = Graphs.withActors(0, 1, 2, 3);
        graph.edge(1, 2, 1, 1, 0);
        graph.edge(2, 1, 1, 1, 0);
        for (int policy = 0; policy <= 2; policy++) {
            check.due("ring without delay", graph.solve(policy), RateGraph.DEADLOCK - 1);
        }
        graph.unedge(1);
        graph.edge(2, 1, 1, 1, 1);
        check.due("ring with delay", graph.solve(0), 4);

        RateGraph short1 = Graphs.withActors(5, 7);
        short1.edge(5, 7, 1, 2, 0);
        short1.edge(7, 5, 2, 1, 1);
        check.due("an actor that has fired once of twice", short1.solve(0), RateGraph.DEADLOCK - 5);
        short1.unedge(1);
        short1.edge(7, 5, 2, 1, 2);
        check.due("delay that is just enough", short1.solve(0), 3);

        RateGraph loop = Graphs.withActors(7);
        loop.edge(7, 7, 6, 6, 5);
        check.due("a loop that lacks one token", loop.solve(0), RateGraph.DEADLOCK - 7);
    }

    private static void failedSolveLeavesTheGraphUnsolved() {
        RateGraph graph = Graphs.withActors(0, 1);
        graph.edge(0, 1, 1, 1, 0);
        graph.solve(0);
        graph.edge(1, 0, 1, 1, 0);
        check.due("solve in a ring", graph.solve(0), RateGraph.DEADLOCK);
        check.due("SOLVED after DEADLOCK", graph.count(3), 0);
        check.due("schedule(0) after DEADLOCK", graph.schedule(0), RateGraph.STATE);
        check.due("latest(0) after DEADLOCK", graph.latest(0), RateGraph.NONE);
        graph.unedge(1);
        graph.edge(1, 0, 1, 2, 12);
        check.due("solve of two ratios", graph.solve(0), RateGraph.INCONSISTENT - 1);
        check.due("SOLVED after INCONSISTENT", graph.count(3), 0);
        graph.unedge(1);
        check.due("solve after the cure", graph.solve(0), 2);
    }

    private static void policiesDiffer() {
        RateGraph graph = Graphs.withActors(1, 2, 3);
        graph.edge(2, 1, 1, 1, 0);
        graph.solve(0);
        check.dueSchedule("policy 0", graph, "213");
        graph.solve(1);
        check.dueSchedule("policy 1", graph, "321");
        graph.solve(2);
        check.dueSchedule("policy 2", graph, "231");
    }

    private static void policyZeroTakesTheLeast() {
        RateGraph graph = Graphs.withActors(0, 1, 2);
        graph.edge(2, 1, 2, 1, 0);
        graph.edge(1, 0, 1, 1, 0);
        graph.solve(0);
        check.dueSchedule("downwards, policy 0", graph, "21010");
        graph.solve(1);
        check.dueSchedule("downwards, policy 1", graph, "21010");
        graph.solve(2);
        check.dueSchedule("downwards, policy 2", graph, "21100");
    }

    private static void policyOneTakesTheLeastOfEqualOnes() {
        RateGraph graph = Graphs.withActors(0, 1, 2);
        graph.edge(0, 1, 2, 1, 0);
        graph.edge(1, 2, 1, 1, 0);
        graph.solve(1);
        check.dueSchedule("upwards, policy 1", graph, "01212");
        graph.solve(0);
        check.dueSchedule("upwards, policy 0", graph, "01122");

        RateGraph equal = Graphs.withActors(4, 5, 6);
        equal.solve(1);
        check.dueSchedule("equal ones, policy 1", equal, "456");

        // 1 puts nine tokens and 0 four, but 1 takes six of its own before: it wins three only.
        RateGraph loops = Graphs.withActors(0, 1, 2);
        loops.edge(0, 2, 4, 4, 0);
        loops.edge(1, 2, 3, 3, 0);
        loops.edge(1, 1, 6, 6, 6);
        loops.solve(1);
        check.dueSchedule("loops win nothing, policy 1", loops, "102");
    }

    private static void policyTwoGoesOnAndThenAround() {
        RateGraph graph = Graphs.withActors(0, 3, 5, 6);
        graph.edge(3, 0, 1, 2, 1);
        graph.edge(5, 6, 3, 1, 0);
        graph.edge(6, 3, 2, 3, 0);
        // 6 goes on until it is done; none is above it, and 0 lacks a token: so 3 is the least.
        check.due("solve(2)", graph.solve(2), 7);
        check.dueSchedule("around, policy 2", graph, "5666330");
        graph.solve(0);
        check.dueSchedule("around, policy 0", graph, "5663063");

        RateGraph stop = Graphs.withActors(0, 1, 2);
        stop.edge(2, 0, 2, 1, 0);
        stop.edge(0, 1, 1, 1, 0);
        stop.edge(1, 0, 1, 1, 1);
        stop.solve(2);
        check.dueSchedule("the last one has more to fire but is not READY, policy 2", stop, "20101");
    }

    private static void schedulePlaces() {
        RateGraph graph = Graphs.withActors(0, 1);
        graph.edge(0, 1, 1, 3, 0);
        check.due("schedule(0) not SOLVED", graph.schedule(0), RateGraph.STATE);
        check.due("schedule(9) not SOLVED", graph.schedule(9), RateGraph.STATE);
        check.due("solve", graph.solve(0), 4);
        check.due("schedule(0)", graph.schedule(0), 0);
        check.due("schedule(2)", graph.schedule(2), 0);
        check.due("schedule(3)", graph.schedule(3), 1);
        int[] wrong = {-1, 4, 63, 64, Integer.MIN_VALUE, Integer.MAX_VALUE};
        for (int i : wrong) {
            check.due("schedule(" + i + ")", graph.schedule(i), RateGraph.REFUSED);
        }
        graph.run(1);
        check.due("schedule(3) after a run", graph.schedule(3), 1);
    }
}
