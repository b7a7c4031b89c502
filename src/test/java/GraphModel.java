import java.math.BigInteger;
import java.util.ArrayDeque;
import java.util.ArrayList;
import java.util.Arrays;
import java.util.Iterator;
import java.util.List;

/** The document told once more, slowly and by other means than the program's: fractions, queues and recursion. */
final class GraphModel {
    private record Edge(int from, int to, int in, int out, int delay) { }

    private final Integer[] kind = new Integer[8];
    private final int[] parameter = new int[8];
    private final List<Edge> edges = new ArrayList<>();

    private boolean solved;
    private BigInteger[] numbers;
    private List<Integer> order;
    private int[] peaks;
    private List<ArrayDeque<Integer>> queues;
    private List<List<Integer>> pastX;
    private int[] lastY;
    private int firings;

    int actor(int a, int k, int p) {
        if (a < 0 || a > 7 || k < 0 || k > 3) {
            return -1;
        }
        kind[a] = k;
        parameter[a] = p;
        solved = false;
        return 0;
    }

    int edge(int from, int to, int in, int out, int delay) {
        if (!there(from) || !there(to) || in < 1 || in > 6 || out < 1 || out > 6 || delay < 0 || delay > 12) {
            return -1;
        }
        if (edges.size() == 12) {
            return -2;
        }
        edges.add(new Edge(from, to, in, out, delay));
        solved = false;
        return edges.size() - 1;
    }

    int unedge(int e) {
        if (e < 0 || e >= edges.size()) {
            return -1;
        }
        edges.remove(e);
        solved = false;
        return edges.size();
    }

    int solve(int policy) {
        if (policy < 0 || policy > 2) {
            return -1;
        }
        if (count(0) == 0) {
            return -4;
        }
        solved = false;
        for (int e = 0; e < edges.size(); e++) {
            if (leastBalance(e + 1) == null) {
                return -100 - e;
            }
        }
        numbers = leastBalance(edges.size());
        BigInteger sum = BigInteger.ZERO;
        for (BigInteger number : numbers) {
            sum = sum.add(number);
        }
        if (sum.compareTo(BigInteger.valueOf(64)) > 0) {
            return -3;
        }
        int stuck = schedule(policy, sum.intValue());
        if (stuck >= 0) {
            return -200 - stuck;
        }
        begin();
        solved = true;
        return order.size();
    }

    int run(int periods) {
        if (periods < 1 || periods > 8) {
            return -1;
        }
        if (!solved) {
            return -4;
        }
        int before = firings;
        for (int p = 0; p < periods; p++) {
            order.forEach(this::fire);
        }
        return firings - before;
    }

    int repetitions(int a) {
        return !there(a) ? -1 : !solved ? -4 : numbers[a].intValue();
    }

    int schedule(int i) {
        return !solved ? -4 : i < 0 || i >= order.size() ? -1 : order.get(i);
    }

    int peak(int e) {
        return e < 0 || e >= edges.size() ? -1 : !solved ? -4 : peaks[e];
    }

    int nested() {
        if (!solved) {
            return -4;
        }
        for (Edge edge : edges) {
            if (edge.from != edge.to && (edge.from > edge.to || edge.delay != 0)) {
                return -4;
            }
        }
        List<Integer> all = new ArrayList<>();
        for (int a = 0; a < 8; a++) {
            if (there(a)) {
                all.add(a);
            }
        }
        return nestingCost(all);
    }

    long latest(int a) {
        return !there(a) || !solved ? -1000000000000L : lastY[a];
    }

    long token(int e, int i) {
        if (e < 0 || e >= edges.size() || !solved || i < 0 || i >= queues.get(e).size()) {
            return -1000000000000L;
        }
        Iterator<Integer> walk = queues.get(e).iterator();
        for (int k = 0; k < i; k++) {
            walk.next();
        }
        return walk.next();
    }

    int tokens(int e) {
        return e < 0 || e >= edges.size() ? -1 : !solved ? -4 : queues.get(e).size();
    }

    int count(int what) {
        if (what < 0 || what > 8) {
            return -1;
        }
        if (what == 0) {
            return (int) Arrays.stream(kind).filter(k -> k != null).count();
        }
        if (what == 1) {
            return edges.size();
        }
        if (what == 2) {
            return parts();
        }
        if (!solved) {
            return 0;
        }
        switch (what) {
            case 3:
                return 1;
            case 4:
                return order.size();
            case 5:
                return runs();
            case 6:
                return Arrays.stream(peaks).sum();
            case 7:
                return firings;
            default:
                return queues.stream().mapToInt(ArrayDeque::size).sum();
        }
    }

    private boolean there(int a) {
        return a >= 0 && a < 8 && kind[a] != null;
    }

    /** All actors that can be reached from one by the first edges, there and back. */
    private boolean[] reach(int start, int first) {
        boolean[] seen = new boolean[8];
        seen[start] = true;
        for (int round = 0; round < 8; round++) {
            for (Edge edge : edges.subList(0, first)) {
                if (seen[edge.from] || seen[edge.to]) {
                    seen[edge.from] = true;
                    seen[edge.to] = true;
                }
            }
        }
        return seen;
    }

    private int parts() {
        int parts = 0;
        for (int a = 0; a < 8; a++) {
            if (there(a)) {
                boolean[] seen = reach(a, edges.size());
                boolean least = true;
                for (int b = 0; b < a; b++) {
                    least &= !seen[b];
                }
                parts += least ? 1 : 0;
            }
        }
        return parts;
    }

    /** The least BALANCE by the first edges, with 0 for those that aren't there, or null. */
    private BigInteger[] leastBalance(int first) {
        BigInteger[] least = new BigInteger[8];
        Arrays.fill(least, BigInteger.ZERO);
        for (int a = 0; a < 8; a++) {
            if (there(a) && least[a].signum() == 0) {
                spread(a, first, least);
            }
        }
        for (Edge edge : edges.subList(0, first)) {
            BigInteger put = least[edge.from].multiply(BigInteger.valueOf(edge.in));
            BigInteger taken = least[edge.to].multiply(BigInteger.valueOf(edge.out));
            if (!put.equals(taken)) {
                return null;
            }
        }
        return least;
    }

    /** Spreads 60 to the 8th, which all rates divide often enough, from one actor over its PART, and makes it least. */
    private void spread(int start, int first, BigInteger[] least) {
        boolean[] part = reach(start, first);
        least[start] = BigInteger.valueOf(60).pow(8);
        for (int round = 0; round < 8; round++) {
            for (Edge edge : edges.subList(0, first)) {
                BigInteger in = BigInteger.valueOf(edge.in);
                BigInteger out = BigInteger.valueOf(edge.out);
                if (part[edge.from] && least[edge.from].signum() > 0 && least[edge.to].signum() == 0) {
                    least[edge.to] = least[edge.from].multiply(in).divide(out);
                }
                if (part[edge.from] && least[edge.to].signum() > 0 && least[edge.from].signum() == 0) {
                    least[edge.from] = least[edge.to].multiply(out).divide(in);
                }
            }
        }
        BigInteger divisor = BigInteger.ZERO;
        for (int a = 0; a < 8; a++) {
            divisor = part[a] ? divisor.gcd(least[a]) : divisor;
        }
        for (int a = 0; a < 8; a++) {
            least[a] = part[a] ? least[a].divide(divisor) : least[a];
        }
    }

    private int schedule(int policy, int length) {
        order = new ArrayList<>();
        int[] held = new int[edges.size()];
        for (int e = 0; e < held.length; e++) {
            held[e] = edges.get(e).delay;
        }
        peaks = held.clone();
        int[] left = new int[8];
        for (int a = 0; a < 8; a++) {
            left[a] = numbers[a].intValue();
        }
        while (order.size() < length) {
            List<Integer> ready = new ArrayList<>();
            for (int a = 0; a < 8; a++) {
                if (left[a] > 0 && after(held, a) != null) {
                    ready.add(a);
                }
            }
            if (ready.isEmpty()) {
                for (int a = 0; a < 8; a++) {
                    if (left[a] > 0) {
                        return a;
                    }
                }
            }
            int chosen = choose(policy, ready, held);
            held = after(held, chosen);
            left[chosen]--;
            order.add(chosen);
            for (int e = 0; e < held.length; e++) {
                peaks[e] = Math.max(peaks[e], held[e]);
            }
        }
        return -1;
    }

    /** What the edges hold after a firing, or null if the actor isn't READY. */
    private int[] after(int[] held, int a) {
        int[] then = held.clone();
        for (int e = 0; e < then.length; e++) {
            if (edges.get(e).to == a) {
                then[e] -= edges.get(e).out;
                if (then[e] < 0) {
                    return null;
                }
            }
        }
        for (int e = 0; e < then.length; e++) {
            if (edges.get(e).from == a) {
                then[e] += edges.get(e).in;
            }
        }
        return then;
    }

    private int choose(int policy, List<Integer> ready, int[] held) {
        if (policy == 1) {
            int best = ready.get(0);
            for (int a : ready) {
                if (Arrays.stream(after(held, a)).sum() < Arrays.stream(after(held, best)).sum()) {
                    best = a;
                }
            }
            return best;
        }
        if (policy == 2 && !order.isEmpty()) {
            int last = order.get(order.size() - 1);
            if (ready.contains(last)) {
                return last;
            }
            for (int a : ready) {
                if (a > last) {
                    return a;
                }
            }
        }
        return ready.get(0);
    }

    private void begin() {
        queues = new ArrayList<>();
        for (Edge edge : edges) {
            ArrayDeque<Integer> queue = new ArrayDeque<>();
            for (int i = 0; i < edge.delay; i++) {
                queue.add(0);
            }
            queues.add(queue);
        }
        pastX = new ArrayList<>();
        for (int a = 0; a < 8; a++) {
            pastX.add(new ArrayList<>());
        }
        lastY = new int[8];
        firings = 0;
    }

    private void fire(int a) {
        int x = 0;
        for (int e = 0; e < edges.size(); e++) {
            if (edges.get(e).to == a) {
                for (int weight = 1; weight <= edges.get(e).out; weight++) {
                    x += weight * queues.get(e).remove();
                }
            }
        }
        List<Integer> past = pastX.get(a);
        int former = past.isEmpty() ? 0 : past.get(past.size() - 1);
        past.add(x);
        int sum = 0;
        for (int one : past) {
            sum += one;
        }
        int[] byKind = {parameter[a] + x, parameter[a] * x, sum, x - former};
        int y = byKind[kind[a]];
        lastY[a] = y;
        for (int e = 0; e < edges.size(); e++) {
            if (edges.get(e).from == a) {
                for (int j = 0; j < edges.get(e).in; j++) {
                    queues.get(e).add(y + j);
                }
            }
        }
        firings++;
    }

    private int runs() {
        int runs = 1;
        for (int i = 1; i < order.size(); i++) {
            runs += order.get(i).equals(order.get(i - 1)) ? 0 : 1;
        }
        return runs;
    }

    private int nestingCost(List<Integer> stretch) {
        if (stretch.size() == 1) {
            return 0;
        }
        BigInteger divisor = BigInteger.ZERO;
        for (int a : stretch) {
            divisor = divisor.gcd(numbers[a]);
        }
        int least = Integer.MAX_VALUE;
        for (int cut = 1; cut < stretch.size(); cut++) {
            List<Integer> first = stretch.subList(0, cut);
            List<Integer> second = stretch.subList(cut, stretch.size());
            int sum = nestingCost(first) + nestingCost(second);
            for (Edge edge : edges) {
                if (first.contains(edge.from) && second.contains(edge.to)) {
                    sum += edge.in * numbers[edge.from].intValue() / divisor.intValue();
                }
            }
            least = Math.min(least, sum);
        }
        return least;
    }
}
