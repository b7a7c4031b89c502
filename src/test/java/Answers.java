/** All that an object answers, as one text, to compare two objects by. */
final class Answers {
    private Answers() { }

    static String of(RateGraph graph) {
        StringBuilder all = new StringBuilder("counts");
        for (int what = 0; what <= 8; what++) {
            all.append(' ').append(graph.count(what));
        }
        all.append(" nested ").append(graph.nested()).append(" actors");
        for (int a = 0; a <= 7; a++) {
            all.append(' ').append(graph.repetitions(a)).append(':').append(graph.latest(a));
        }
        all.append(" schedule");
        int length = graph.count(4);
        for (int i = 0; i <= length; i++) {
            all.append(' ').append(graph.schedule(i));
        }
        int edges = graph.count(1);
        for (int e = 0; e <= edges; e++) {
            all.append(" edge ").append(e).append(" peak ").append(graph.peak(e));
            int tokens = graph.tokens(e);
            all.append(" tokens ").append(tokens).append(':');
            for (int i = 0; i < tokens; i++) {
                all.append(' ').append(graph.token(e, i));
            }
        }
        return all.toString();
    }
}
