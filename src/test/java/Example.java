/** A chain of three actors: how often, in which order, in what room, and with which numbers they fire. */
public final class Example {
    public static void main(String[] args) {
        RateGraph graph = new RateGraph();
        graph.actor(0, 0, 5); // Y is 5 + X
        graph.actor(1, 1, 3); // Y is 3 * X
        graph.actor(2, 2, 0); // Y is the sum of all X
        int first = graph.edge(0, 1, 2, 3, 0); // 0 puts 2 tokens, 1 takes 3, none is there at first
        int second = graph.edge(1, 2, 4, 1, 0);

        int length = graph.solve(1);
        if (length < 0) {
            System.out.println("not solved: " + length);
            return;
        }
        System.out.print("schedule:");
        for (int i = 0; i < length; i++) {
            System.out.print(" " + graph.schedule(i));
        }
        System.out.println();
        System.out.println("firings of actor 2 in a period: " + graph.repetitions(2));
        System.out.println("runs: " + graph.count(5));
        System.out.println("peaks: " + graph.peak(first) + " and " + graph.peak(second));
        System.out.println("nested room: " + graph.nested());

        System.out.println("firings: " + graph.run(2));
        System.out.println("latest of actor 2: " + graph.latest(2));
    }
}
