/** Counts and prints the answers that are not the ones that are due. */
final class Check {
    private int wrong;

    void due(String call, long got, long want) {
        if (got != want) {
            wrong++;
            System.out.println(call + " answered " + got + ", due is " + want);
        }
    }

    /** THE SCHEDULE as it stands, as a text of actors, against the one that is due. */
    void dueSchedule(String title, RateGraph graph, String want) {
        StringBuilder got = new StringBuilder();
        for (int i = 0; i < graph.count(4); i++) {
            got.append(graph.schedule(i));
        }
        dueText(title + ": the schedule", got.toString(), want);
    }

    void dueText(String title, String got, String want) {
        if (!got.equals(want)) {
            wrong++;
            System.out.println(title + " is " + got + ", due is " + want);
        }
    }

    void end() {
        System.out.println(wrong == 0 ? "all answers are as due" : wrong + " answers are not as due");
        if (wrong != 0) {
            System.exit(1);
        }
    }
}
