/** Graphs that several tests begin with. */
final class Graphs {
    private Graphs() { }

    /** The actors, each of kind 0 with the parameter 1, and no edges. */
    static RateGraph withActors(int... actors) {
        RateGraph graph = new RateGraph();
        for (int a : actors) {
            graph.actor(a, 0, 1);
        }
        return graph;
    }

    static RateGraph withAllActors() {
        return withActors(0, 1, 2, 3, 4, 5, 6, 7);
    }

    /** Actors 0 and 1 with so many edges 0 to 1 of the rates 1, whose delays are 1, 2, 3 and so on: each edge is known by it. */
    static RateGraph withEdges(int edges) {
        RateGraph graph = withActors(0, 1);
        for (int e = 0; e < edges; e++) {
            graph.edge(0, 1, 1, 1, e + 1);
        }
        return graph;
    }

    /** All 8 actors, of all kinds, and 12 edges; the schedule has 8 firings. */
    static RateGraph full() {
        RateGraph graph = new RateGraph();
        for (int a = 0; a < 8; a++) {
            graph.actor(a, a % 4, a + 1);
        }
        for (int a = 0; a < 7; a++) {
            graph.edge(a, a + 1, 2, 2, a);
        }
        for (int a = 0; a < 5; a++) {
            graph.edge(a, a, 1, 1, a + 1);
        }
        return graph;
    }

    /** One PART whose REPETITIONS are 1, 6, 36, 18 and a last one: 2 or 3 or 4. */
    static RateGraph withSumOf61And(int last) {
        RateGraph graph = withActors(0, 1, 2, 3, 4);
        graph.edge(0, 1, 6, 1, 0);
        graph.edge(1, 2, 6, 1, 0);
        graph.edge(2, 3, 1, 2, 0);
        graph.edge(0, 4, last, 1, 0);
        return graph;
    }
}
