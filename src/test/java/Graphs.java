/** Graphs that several tests begin with. */
final class Graphs {
    private Graphs() { }

    /** The actors, each of kind 0 with the parameter 1, and no edges. */
    static RateGraph withActors(int... actors) {
        RateGraph graph = new RateGraph();
        for (int a : actors) {
            graph.actor(a, 0, 1);
        }
        return graph;
    }
}
