/** The sentences of the promises 5, 7 and 8 that name a bound: each is told above the test that holds it. */
public final class SolvingBoundsTest {
    private static final int LEAST = Integer.MIN_VALUE;
    private static final int GREATEST = Integer.MAX_VALUE;
    private static final int[] POLICIES_OUT_OF_RANGE = {LEAST, -2, -1, 3, 4, GREATEST};
    private static final Check check = new Check();

    public static void main(String[] args) {
        policies();
        policyIsTestedFirst();
        noActorsIsState();
        solveAnewAlsoIfSolved();
        solveAnewWithAnotherPolicy();
        everyEdgeCanBeTheCulprit();
        culpritIsTheLeast();
        sixtyFourIsNotBig();
        bigIsTestedBeforeDeadlock();
        inconsistentIsTestedBeforeBig();
        everyActorCanBeTheDeadlock();
        deadlockNamesTheLeastThatIsNotDone();
        notSolvedAfterThese();
        lengthsOfTheSchedule();
        repetitionsOfActors();
        repetitionsAreLeastInEachPart();
        placesOfTheSchedule();
        check.end();
    }

    private static RateGraph inconsistent() {
        RateGraph graph = Graphs.withActors(0, 1);
        graph.edge(0, 1, 1, 1, 0);
        graph.edge(0, 1, 1, 2, 0);
        return graph;
    }

    private static RateGraph deadlocked() {
        RateGraph graph = Graphs.withActors(0, 1);
        graph.edge(0, 1, 1, 1, 0);
        graph.edge(1, 0, 1, 1, 0);
        return graph;
    }

    /** "a policy (0 .. 2, else REFUSED)" */
    private static void policies() {
        RateGraph graph = Graphs.withActors(0, 7);
        for (int policy = 0; policy <= 2; policy++) {
            check.due("solve(" + policy + ")", graph.solve(policy), 2);
        }
        for (int policy : POLICIES_OUT_OF_RANGE) {
            check.due("solve(" + policy + ")", graph.solve(policy), RateGraph.REFUSED);
            check.due("SOLVED after solve(" + policy + ")", graph.count(3), 1);
        }
    }

    /** "Numbers are tested first": before STATE, INCONSISTENT, BIG and DEADLOCK. */
    private static void policyIsTestedFirst() {
        RateGraph[] graphs = {new RateGraph(), inconsistent(), Graphs.withSumOf61And(4), deadlocked()};
        int[] answers = {RateGraph.STATE, RateGraph.INCONSISTENT - 1, RateGraph.BIG, RateGraph.DEADLOCK};
        for (int g = 0; g < graphs.length; g++) {
            for (int policy : POLICIES_OUT_OF_RANGE) {
                check.due("graph " + g + ": solve(" + policy + ")", graphs[g].solve(policy), RateGraph.REFUSED);
            }
            for (int policy = 0; policy <= 2; policy++) {
                check.due("graph " + g + ": solve(" + policy + ")", graphs[g].solve(policy), answers[g]);
            }
        }
    }

    /** "No actors: STATE." */
    private static void noActorsIsState() {
        RateGraph graph = new RateGraph();
        for (int policy = 0; policy <= 2; policy++) {
            check.due("empty: solve(" + policy + ")", graph.solve(policy), RateGraph.STATE);
            check.due("empty: SOLVED", graph.count(3), 0);
        }
        graph.actor(8, 0, 0);
        graph.actor(0, 4, 0);
        check.due("solve after refused actors alone", graph.solve(0), RateGraph.STATE);
        graph.actor(7, 0, 0);
        check.due("solve of one actor", graph.solve(0), 1);
    }

    /** "also if SOLVED already (then anew)", and "Then it can be run: LATEST 0, no firings, edges as at first." */
    private static void solveAnewAlsoIfSolved() {
        for (int policy = 0; policy <= 2; policy++) {
            RateGraph plain = Graphs.full();
            plain.solve(policy);
            RateGraph anew = Graphs.full();
            anew.solve(policy);
            anew.run(5);
            check.due("solve anew", anew.solve(policy), 8);
            check.dueText("all after solve anew", Answers.of(anew), Answers.of(plain));
            check.due("latest after solve anew", anew.latest(0), 0);
            check.due("firings after solve anew", anew.count(7), 0);
            check.due("a token of a delay after solve anew", anew.token(6, 5), 0);
        }
    }

    /** "also if SOLVED already (then anew)": with the policy of the last solve that was not refused. */
    private static void solveAnewWithAnotherPolicy() {
        RateGraph graph = Graphs.withActors(0, 1, 2);
        graph.edge(2, 1, 2, 1, 0);
        graph.edge(1, 0, 1, 1, 0);
        graph.solve(0);
        check.dueSchedule("policy 0", graph, "21010");
        check.due("peak, policy 0", graph.peak(1), 1);
        graph.solve(2);
        check.dueSchedule("policy 2 after it", graph, "21100");
        check.due("peak, policy 2", graph.peak(1), 2);
        graph.solve(0);
        check.dueSchedule("policy 0 again", graph, "21010");
        check.due("peak, policy 0 again", graph.peak(1), 1);
        graph.solve(3);
        check.dueSchedule("a refused policy leaves it", graph, "21010");
    }

    /** "Less the CULPRIT: not CONSISTENT": each of the edges 0 .. 11, by a loop and by a second edge. */
    private static void everyEdgeCanBeTheCulprit() {
        for (int culprit = 0; culprit < 12; culprit++) {
            RateGraph loop = Graphs.withActors(0, 1);
            RateGraph second = Graphs.withActors(0, 1);
            for (int e = 0; e < 12; e++) {
                loop.edge(e == culprit ? 1 : 0, 1, 1, e == culprit ? 2 : 1, 12);
                second.edge(0, 1, 1, e == culprit && e > 0 ? 6 : 1, 12);
            }
            check.due("loop at " + culprit, loop.solve(culprit % 3), RateGraph.INCONSISTENT - culprit);
            int want = culprit == 0 ? 2 : RateGraph.INCONSISTENT - culprit;
            check.due("other ratio at " + culprit, second.solve(culprit % 3), want);
        }
    }

    /** "the least edge with which (and those before it) there is no BALANCE" */
    private static void culpritIsTheLeast() {
        RateGraph graph = Graphs.withActors(0, 1, 2);
        graph.edge(0, 1, 1, 2, 0);
        graph.edge(1, 2, 2, 1, 0);
        graph.edge(0, 2, 1, 2, 0);
        graph.edge(0, 2, 1, 1, 0);
        graph.edge(2, 2, 1, 2, 0);
        check.due("edge 2 with the two before it", graph.solve(0), RateGraph.INCONSISTENT - 2);
        graph.unedge(2);
        check.due("the loop after edge 2 is gone", graph.solve(0), RateGraph.INCONSISTENT - 3);
        graph.unedge(3);
        check.due("no edge more", graph.solve(0), 5);
        graph.unedge(0);
        graph.edge(0, 1, 2, 2, 0);
        check.due("the edge that is the last now", graph.solve(0), RateGraph.INCONSISTENT - 2);
    }

    /** "The REPETITIONS sum up to more than 64." */
    private static void sixtyFourIsNotBig() {
        for (int policy = 0; policy <= 2; policy++) {
            check.due("a PART of 63", Graphs.withSumOf61And(2).solve(policy), 63);
            check.due("a PART of 64", Graphs.withSumOf61And(3).solve(policy), 64);
            check.due("a PART of 65", Graphs.withSumOf61And(4).solve(policy), RateGraph.BIG);
        }
        RateGraph parts = Graphs.withSumOf61And(1);
        check.due("a PART of 62", parts.solve(0), 62);
        parts.actor(5, 0, 0);
        parts.actor(6, 0, 0);
        check.due("three PARTS of 64", parts.solve(0), 64);
        parts.actor(7, 0, 0);
        check.due("four PARTS of 65", parts.solve(0), RateGraph.BIG);
        parts.unedge(3);
        check.due("four PARTS of 65 otherwise", parts.solve(0), RateGraph.BIG);
        parts.edge(0, 5, 1, 1, 0);
        check.due("as many in fewer PARTS", parts.solve(0), RateGraph.BIG);
    }

    /** "then BIG; then DEADLOCK" */
    private static void bigIsTestedBeforeDeadlock() {
        RateGraph just = Graphs.withSumOf61And(3);
        just.edge(3, 3, 1, 1, 0);
        check.due("64 with a DEADLOCK", just.solve(0), RateGraph.DEADLOCK - 3);
        RateGraph more = Graphs.withSumOf61And(4);
        more.edge(3, 3, 1, 1, 0);
        check.due("65 with a DEADLOCK", more.solve(0), RateGraph.BIG);
    }

    /** "Not CONSISTENT: INCONSISTENT - CULPRIT; then BIG" */
    private static void inconsistentIsTestedBeforeBig() {
        RateGraph graph = Graphs.withSumOf61And(4);
        graph.edge(3, 3, 1, 1, 0);
        graph.edge(4, 4, 5, 6, 12);
        check.due("65 with a CULPRIT and a DEADLOCK", graph.solve(0), RateGraph.INCONSISTENT - 5);
        graph.unedge(5);
        check.due("65 with a DEADLOCK", graph.solve(0), RateGraph.BIG);
    }

    /** "DEADLOCK - the actor": each of the actors 0 .. 7. */
    private static void everyActorCanBeTheDeadlock() {
        for (int a = 0; a <= 7; a++) {
            RateGraph graph = Graphs.withAllActors();
            graph.edge(a, a, 6, 6, 5);
            for (int policy = 0; policy <= 2; policy++) {
                check.due("a loop at " + a + " that lacks one", graph.solve(policy), RateGraph.DEADLOCK - a);
            }
            graph.unedge(0);
            graph.edge(a, a, 6, 6, 6);
            check.due("a loop at " + a + " that lacks none", graph.solve(0), 8);
        }
    }

    /** "Less the least actor that has fired less often than its REPETITIONS" */
    private static void deadlockNamesTheLeastThatIsNotDone() {
        RateGraph partly = Graphs.withActors(0, 1, 2);
        partly.edge(2, 1, 3, 1, 0);
        partly.edge(1, 2, 1, 3, 2);
        check.due("0 is done, 1 has not fired, 2 has not", partly.solve(0), RateGraph.DEADLOCK - 1);
        partly.unedge(1);
        partly.unedge(0);
        partly.edge(2, 1, 3, 1, 2);
        partly.edge(1, 2, 1, 3, 0);
        check.due("1 has fired twice of three times", partly.solve(0), RateGraph.DEADLOCK - 1);
        partly.unedge(0);
        partly.edge(2, 1, 3, 1, 3);
        check.due("1 fires three times and then 2", partly.solve(0), 5);

        RateGraph behind = Graphs.withActors(3, 5, 7);
        behind.edge(5, 3, 1, 1, 1);
        behind.edge(7, 5, 1, 1, 0);
        behind.edge(7, 7, 1, 1, 0);
        check.due("3 is done, 5 waits for 7", behind.solve(0), RateGraph.DEADLOCK - 5);
    }

    /** "after these it is not SOLVED" */
    private static void notSolvedAfterThese() {
        int[][] lastEdge = {{0, 1, 2, 1, 0}, {1, 1, 1, 1, 0}, {2, 3, 6, 1, 0}};
        int[] answers = {RateGraph.INCONSISTENT - 3, RateGraph.DEADLOCK - 1, RateGraph.BIG};
        for (int bad = 0; bad < 3; bad++) {
            RateGraph graph = Graphs.withActors(0, 1, 2, 3);
            graph.edge(0, 1, 1, 1, 0);
            graph.edge(0, 2, 6, 1, 0);
            graph.edge(0, 0, 1, 1, 12);
            check.due("solve before", graph.solve(0), 9);
            graph.run(1);
            int[] w = lastEdge[bad];
            graph.edge(w[0], w[1], w[2], w[3], w[4]);
            if (bad == 2) {
                graph.actor(4, 0, 0);
                graph.edge(2, 4, 6, 1, 0);
            }
            check.due("bad " + bad + ": solve", graph.solve(0), answers[bad]);
            check.due("bad " + bad + ": SOLVED", graph.count(3), 0);
            check.due("bad " + bad + ": run(1)", graph.run(1), RateGraph.STATE);
            check.due("bad " + bad + ": repetitions(0)", graph.repetitions(0), RateGraph.STATE);
            check.due("bad " + bad + ": schedule(0)", graph.schedule(0), RateGraph.STATE);
            check.due("bad " + bad + ": peak(0)", graph.peak(0), RateGraph.STATE);
            check.due("bad " + bad + ": nested()", graph.nested(), RateGraph.STATE);
            check.due("bad " + bad + ": latest(0)", graph.latest(0), RateGraph.NONE);
            check.due("bad " + bad + ": token(2, 0)", graph.token(2, 0), RateGraph.NONE);
            check.due("bad " + bad + ": tokens(2)", graph.tokens(2), RateGraph.STATE);
            for (int what = 3; what <= 8; what++) {
                check.due("bad " + bad + ": count(" + what + ")", graph.count(what), 0);
            }
        }
    }

    /** "Else SOLVED, and THE SCHEDULE is ready to run from its beginning: its length." */
    private static void lengthsOfTheSchedule() {
        for (int actors = 1; actors <= 8; actors++) {
            RateGraph graph = new RateGraph();
            for (int a = 0; a < actors; a++) {
                graph.actor(7 - a, 0, a);
            }
            check.due("solve of " + actors, graph.solve(0), actors);
            check.due("length of " + actors, graph.count(4), actors);
            check.due("firings of " + actors, graph.count(7), 0);
            check.due("SOLVED of " + actors, graph.count(3), 1);
            check.due("run of " + actors, graph.run(1), actors);
        }
    }

    /** "The REPETITIONS of the actor; REFUSED if it isn't there; not SOLVED: STATE." */
    private static void repetitionsOfActors() {
        int[] numbers = {LEAST, -1, 0, 1, 2, 3, 4, 5, 6, 7, 8, GREATEST};
        RateGraph graph = Graphs.withActors(0, 4, 7);
        graph.edge(0, 7, 6, 5, 0);
        for (int a : numbers) {
            boolean there = a == 0 || a == 4 || a == 7;
            check.due("not SOLVED: repetitions(" + a + ")", graph.repetitions(a), there ? RateGraph.STATE : RateGraph.REFUSED);
        }
        check.due("solve", graph.solve(0), 12);
        for (int a : numbers) {
            int want = a == 0 ? 5 : a == 4 ? 1 : a == 7 ? 6 : RateGraph.REFUSED;
            check.due("repetitions(" + a + ")", graph.repetitions(a), want);
        }
        graph.run(8);
        check.due("repetitions(7) after a run", graph.repetitions(7), 6);
    }

    /** "then the REPETITIONS are the least ones, each PART by itself" */
    private static void repetitionsAreLeastInEachPart() {
        RateGraph graph = Graphs.withAllActors();
        graph.edge(0, 1, 6, 6, 0);
        graph.edge(2, 3, 6, 4, 0);
        graph.edge(4, 5, 2, 6, 0);
        graph.edge(6, 6, 5, 5, 5);
        int[] apart = {1, 1, 2, 3, 3, 1, 1, 1};
        check.due("PARTS by themselves", graph.solve(0), 13);
        for (int a = 0; a <= 7; a++) {
            check.due("apart: repetitions(" + a + ")", graph.repetitions(a), apart[a]);
        }
        graph.edge(1, 2, 1, 1, 0);
        int[] joined = {2, 2, 2, 3, 3, 1, 1, 1};
        check.due("PARTS that an edge joins", graph.solve(0), 15);
        for (int a = 0; a <= 7; a++) {
            check.due("joined: repetitions(" + a + ")", graph.repetitions(a), joined[a]);
        }
    }

    /** "The actor at place i (from 0) of THE SCHEDULE; not SOLVED: STATE; no such place: REFUSED." */
    private static void placesOfTheSchedule() {
        int[] far = {LEAST, -2, -1, 65, 128, GREATEST};
        RateGraph[] graphs = {Graphs.withActors(7), Graphs.withActors(3, 7), Graphs.withSumOf61And(3)};
        int[] lengths = {1, 2, 64};
        int[] first = {7, 3, 0};
        int[] last = {7, 7, 4};
        for (int g = 0; g < graphs.length; g++) {
            String title = "length " + lengths[g] + ": ";
            check.due(title + "schedule(0) not SOLVED", graphs[g].schedule(0), RateGraph.STATE);
            check.due(title + "schedule(-1) not SOLVED", graphs[g].schedule(-1), RateGraph.STATE);
            check.due(title + "schedule(64) not SOLVED", graphs[g].schedule(64), RateGraph.STATE);
            check.due(title + "solve", graphs[g].solve(2), lengths[g]);
            check.due(title + "first place", graphs[g].schedule(0), first[g]);
            check.due(title + "last place", graphs[g].schedule(lengths[g] - 1), last[g]);
            check.due(title + "one too far", graphs[g].schedule(lengths[g]), RateGraph.REFUSED);
            for (int i : far) {
                check.due(title + "schedule(" + i + ")", graphs[g].schedule(i), RateGraph.REFUSED);
            }
        }
    }
}
