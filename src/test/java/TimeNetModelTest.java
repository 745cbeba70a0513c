import java.util.ArrayList;
import java.util.Arrays;
import java.util.List;
import java.util.NoSuchElementException;

/**
 * Runs of calls against a model that takes the document at its word: it lists every path that
 * meets no point twice and picks the best one. The calls are drawn from a fixed sequence, so each
 * time they are the same.
 */
public final class TimeNetModelTest {
    private static final int RUNS = 1500;
    private static final int CALLS = 512;
    private static final long MOST = 1_000_000_000_000L;

    private static int wrong = 0;

    private record Constraint(int i, int j, long c) { }

    private record Path(long length, List<Integer> points) {
        boolean betterThan(Path other) {
            if (other == null) return true;
            if (length != other.length) return length < other.length;
            if (points.size() != other.points.size()) return points.size() < other.points.size();
            for (int k = 0; k < points.size(); k++) {
                int order = points.get(k).compareTo(other.points.get(k));
                if (order != 0) return order < 0;
            }
            return false;
        }
    }

    private static final class Model {
        final List<Constraint> constraints = new ArrayList<>();
        final List<Boolean> on = new ArrayList<>();
        List<Integer> row = List.of();
        long length = 0;

        static boolean isPoint(int p) {
            return p >= 0 && p <= 19;
        }

        Path best(int i, int j) {
            if (!isPoint(i) || !isPoint(j)) return null;
            List<Integer> points = new ArrayList<>();
            points.add(i);
            return search(points, 0, j, null);
        }

        private Path search(List<Integer> points, long length, int goal, Path best) {
            int last = points.get(points.size() - 1);
            if (last == goal) {
                Path found = new Path(length, List.copyOf(points));
                return found.betterThan(best) ? found : best;
            }
            for (int k = 0; k < constraints.size(); k++) {
                Constraint x = constraints.get(k);
                if (!on.get(k) || x.i() != last || points.contains(x.j()) || !isLeast(k)) continue;
                points.add(x.j());
                best = search(points, length + x.c(), goal, best);
                points.remove(points.size() - 1);
            }
            return best;
        }

        private boolean isLeast(int k) {
            Constraint x = constraints.get(k);
            for (int m = 0; m < constraints.size(); m++) {
                Constraint y = constraints.get(m);
                if (m == k || !on.get(m) || y.i() != x.i() || y.j() != x.j()) continue;
                if (y.c() < x.c() || y.c() == x.c() && m < k) return false;
            }
            return true;
        }

        private boolean refuses(Constraint x) {
            Path back = best(x.j(), x.i());
            if (back == null || back.length() + x.c() >= 0) return false;
            row = new ArrayList<>();
            row.add(x.i());
            row.addAll(back.points());
            length = back.length() + x.c();
            return true;
        }

        int add(int i, int j, long c) {
            if (!isPoint(i) || !isPoint(j) || i == j || c < -MOST || c > MOST) return -1;
            if (constraints.size() == 120) return -1;
            if (refuses(new Constraint(i, j, c))) return -2;
            constraints.add(new Constraint(i, j, c));
            on.add(true);
            return constraints.size() - 1;
        }

        boolean isNumber(int k) {
            return k >= 0 && k < constraints.size();
        }

        boolean off(int k) {
            return isNumber(k) && on.set(k, false);
        }

        int on(int k) {
            if (!isNumber(k) || on.get(k)) return -1;
            if (refuses(constraints.get(k))) return -2;
            on.set(k, true);
            return k;
        }

        int path(int i, int j) {
            Path best = best(i, j);
            if (best == null) return -1;
            row = best.points();
            length = best.length();
            return row.size();
        }

        long slack(int k) {
            if (!isNumber(k) || !on.get(k)) return -1;
            Constraint x = constraints.get(k);
            return x.c() - best(x.i(), x.j()).length();
        }

        int alive() {
            int alive = 0;
            for (boolean is : on) if (is) alive++;
            return alive;
        }
    }

    /** A fixed sequence of numbers for each run, with no random source behind it. */
    private static final class Draw {
        private long state;

        Draw(int run) {
            state = run;
        }

        int below(int limit) {
            state += 0x9E3779B97F4A7C15L;
            long mixed = (state ^ state >>> 30) * 0xBF58476D1CE4E5B9L;
            mixed = (mixed ^ mixed >>> 27) * 0x94D049BB133111EBL;
            return (int) Long.remainderUnsigned(mixed ^ mixed >>> 31, limit);
        }
    }

    /** What the calls of one run are taken from: few points and few values of c, for many ties. */
    private static final class Source {
        final Draw draw;
        final int[] points;
        final long least;
        final long greatest;
        final long unit;

        Source(int seed) {
            draw = new Draw(seed);
            points = new int[2 + draw.below(5)];
            for (int n = 0; n < points.length; n++) points[n] = draw.below(20);
            if (draw.below(2) == 0) points[0] = 0;
            least = -draw.below(4);
            greatest = draw.below(7);
            unit = draw.below(5) == 0 ? MOST / 6 : 1;
        }

        int point() {
            int pick = draw.below(60);
            if (pick == 0) return -1 - draw.below(3);
            if (pick == 1) return 20 + draw.below(3);
            return points[draw.below(points.length)];
        }

        long c() {
            int pick = draw.below(80);
            if (pick == 0) return MOST + 1;
            if (pick == 1) return -MOST - 1;
            if (pick == 2) return MOST;
            if (pick == 3) return -MOST;
            return (least + draw.below((int) (greatest - least) + 1)) * unit;
        }

        int number(int count) {
            return draw.below(count + 4) - 2;
        }
    }

    public static void main(String[] args) {
        for (int run = 0; run < RUNS && wrong < 20; run++) {
            runOne(run);
        }
        System.out.println(wrong == 0 ? "all answers are as due" : wrong + " answers are not as due");
        if (wrong != 0) System.exit(1);
    }

    private static void runOne(int run) {
        Source source = new Source(run);
        TimeNet net = new TimeNet();
        Model model = new Model();
        int adding = 1 + source.draw.below(8);
        for (int call = 0; call < CALLS; call++) {
            String where = "run " + run + ", call " + call + ": ";
            int kind = source.draw.below(12 + adding);
            if (kind >= 12) {
                int i = source.point();
                int j = source.point();
                long c = source.c();
                due(where + "add(" + i + ", " + j + ", " + c + ")", net.add(i, j, c), model.add(i, j, c));
            } else if (kind < 5) {
                numberCall(where, kind, source.number(model.constraints.size()), net, model);
            } else {
                pointCall(where, kind, source.point(), source.point(), net, model);
            }
            dueRow(where, net, model);
        }
    }

    private static void numberCall(String where, int kind, int k, TimeNet net, Model model) {
        switch (kind) {
            case 0 -> due(where + "off(" + k + ")", net.off(k) ? 1 : 0, model.off(k) ? 1 : 0);
            case 1, 2 -> due(where + "on(" + k + ")", net.on(k), model.on(k));
            case 3 -> due(where + "slack(" + k + ")", net.slack(k), model.slack(k));
            default -> due(where + "alive()", net.alive(), model.alive());
        }
    }

    private static void pointCall(String where, int kind, int i, int j, TimeNet net, Model model) {
        String at = "(" + i + ", " + j + ")";
        Path best = model.best(i, j);
        switch (kind) {
            case 5, 6 -> due(where + "path" + at, net.path(i, j), model.path(i, j));
            case 7, 8 -> due(where + "steps" + at, net.steps(i, j), best == null ? -1 : best.points().size() - 1);
            case 9, 10 -> dueBound(where + "bound" + at, i, j, net, best);
            default -> dueEarliest(where + "earliest(" + i + ")", i, net, model.best(i, 0));
        }
    }

    private static void dueBound(String call, int i, int j, TimeNet net, Path best) {
        boolean throwing = !Model.isPoint(i) || !Model.isPoint(j);
        try {
            due(call, net.bound(i, j), best == null ? Long.MAX_VALUE : best.length());
            due(call + " throws", 0, throwing ? 1 : 0);
        } catch (NoSuchElementException e) {
            due(call + " throws", 1, throwing ? 1 : 0);
        }
    }

    private static void dueEarliest(String call, int i, TimeNet net, Path best) {
        boolean throwing = !Model.isPoint(i);
        try {
            due(call, net.earliest(i), best == null ? Long.MIN_VALUE : -best.length());
            due(call + " throws", 0, throwing ? 1 : 0);
        } catch (NoSuchElementException e) {
            due(call + " throws", 1, throwing ? 1 : 0);
        }
    }

    private static void dueRow(String where, TimeNet net, Model model) {
        int[] want = model.row.stream().mapToInt(Integer::intValue).toArray();
        int[] got = new int[Math.max(0, Math.min(net.row(), 21))];
        for (int k = 0; k < got.length; k++) got[k] = net.rowAt(k);
        due(where + "row()", net.row(), want.length);
        due(where + "rowAt behind the end", net.rowAt(net.row()), -1);
        due(where + "length()", net.length(), model.length);
        if (!Arrays.equals(got, want)) {
            due(where + "the row is " + Arrays.toString(got) + " for " + Arrays.toString(want), 0, 1);
        }
    }

    private static void due(String call, long got, long want) {
        if (got != want) {
            wrong++;
            System.out.println(call + " answered " + got + ", due is " + want);
        }
    }
}
