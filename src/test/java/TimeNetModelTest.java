import java.util.ArrayList;
import java.util.Arrays;
import java.util.List;
import java.util.NoSuchElementException;

/**
 * Runs of calls against a model that takes the document at its word: in runs on a few points it
 * lists every path that meets no point twice and picks the best one; in runs on all points, where
 * there are too many to list, it keeps the best one of each number of steps. The calls are drawn
 * from a fixed sequence, so each time they are the same.
 */
public final class TimeNetModelTest {
    private static final int NARROW_RUNS = 3000;
    private static final int WIDE_RUNS = 600;
    private static final int CALLS = 512;
    private static final int POINTS = 20;
    private static final long MOST = 1_000_000_000_000L;

    private static int wrong = 0;

    private record Constraint(int i, int j, long c) { }

    private record Path(long length, List<Integer> points) {
        boolean betterThan(Path other) {
            if (other == null) return true;
            if (length != other.length) return length < other.length;
            if (points.size() != other.points.size()) return points.size() < other.points.size();
            for (int k = 0; k < points.size(); k++) {
                int order = points.get(k).compareTo(other.points.get(k));
                if (order != 0) return order < 0;
            }
            return false;
        }
    }

    private static class Model {
        final List<Constraint> constraints = new ArrayList<>();
        final List<Boolean> on = new ArrayList<>();
        List<Integer> row = List.of();
        long length = 0;
        int rowsWritten = 0;

        static boolean isPoint(int p) {
            return p >= 0 && p <= 19;
        }

        Path best(int i, int j) {
            if (!isPoint(i) || !isPoint(j)) return null;
            List<Integer> points = new ArrayList<>();
            points.add(i);
            return search(points, 0, j, null);
        }

        private Path search(List<Integer> points, long length, int goal, Path best) {
            int last = points.get(points.size() - 1);
            if (last == goal) {
                Path found = new Path(length, List.copyOf(points));
                return found.betterThan(best) ? found : best;
            }
            for (int k = 0; k < constraints.size(); k++) {
                Constraint x = constraints.get(k);
                if (!on.get(k) || x.i() != last || points.contains(x.j()) || !isLeast(k)) continue;
                points.add(x.j());
                best = search(points, length + x.c(), goal, best);
                points.remove(points.size() - 1);
            }
            return best;
        }

        private boolean isLeast(int k) {
            Constraint x = constraints.get(k);
            for (int m = 0; m < constraints.size(); m++) {
                Constraint y = constraints.get(m);
                if (m == k || !on.get(m) || y.i() != x.i() || y.j() != x.j()) continue;
                if (y.c() < x.c() || y.c() == x.c() && m < k) return false;
            }
            return true;
        }

        private boolean refuses(Constraint x) {
            Path back = best(x.j(), x.i());
            if (back == null || back.length() + x.c() >= 0) return false;
            row = new ArrayList<>();
            row.add(x.i());
            row.addAll(back.points());
            length = back.length() + x.c();
            rowsWritten++;
            return true;
        }

        int add(int i, int j, long c) {
            if (!isPoint(i) || !isPoint(j) || i == j || c < -MOST || c > MOST) return -1;
            if (constraints.size() == 120) return -1;
            if (refuses(new Constraint(i, j, c))) return -2;
            constraints.add(new Constraint(i, j, c));
            on.add(true);
            return constraints.size() - 1;
        }

        boolean isNumber(int k) {
            return k >= 0 && k < constraints.size();
        }

        boolean off(int k) {
            return isNumber(k) && on.set(k, false);
        }

        int on(int k) {
            if (!isNumber(k) || on.get(k)) return -1;
            if (refuses(constraints.get(k))) return -2;
            on.set(k, true);
            return k;
        }

        int path(int i, int j) {
            Path best = best(i, j);
            if (best == null) return -1;
            row = best.points();
            length = best.length();
            rowsWritten++;
            return row.size();
        }

        long slack(int k) {
            if (!isNumber(k) || !on.get(k)) return -1;
            Constraint x = constraints.get(k);
            return x.c() - best(x.i(), x.j()).length();
        }

        int alive() {
            int alive = 0;
            for (boolean is : on) if (is) alive++;
            return alive;
        }
    }

    private static final class WideModel extends Model {
        @Override
        Path best(int i, int j) {
            if (!isPoint(i) || !isPoint(j)) return null;
            Path[] bestFrom = new Path[POINTS];
            bestFrom[j] = new Path(0, List.of(j));
            Path best = bestFrom[i];
            for (int steps = 1; steps < POINTS; steps++) {
                bestFrom = withOneStepMore(bestFrom);
                if (bestFrom[i] != null && bestFrom[i].betterThan(best)) best = bestFrom[i];
            }
            return best;
        }

        private Path[] withOneStepMore(Path[] shorter) {
            Path[] bestFrom = new Path[POINTS];
            for (int k = 0; k < constraints.size(); k++) {
                Constraint x = constraints.get(k);
                Path rest = shorter[x.j()];
                if (!on.get(k) || rest == null) continue;
                List<Integer> points = new ArrayList<>();
                points.add(x.i());
                points.addAll(rest.points());
                Path found = new Path(x.c() + rest.length(), points);
                if (found.betterThan(bestFrom[x.i()])) bestFrom[x.i()] = found;
            }
            return bestFrom;
        }
    }

    /** A fixed sequence of numbers for each run, with no random source behind it. */
    private static final class Draw {
        private long state;

        Draw(int run) {
            state = run;
        }

        int below(int limit) {
            state += 0x9E3779B97F4A7C15L;
            long mixed = (state ^ state >>> 30) * 0xBF58476D1CE4E5B9L;
            mixed = (mixed ^ mixed >>> 27) * 0x94D049BB133111EBL;
            return (int) Long.remainderUnsigned(mixed ^ mixed >>> 31, limit);
        }
    }

    /** What the calls of one run are taken from: few values of c, for many ties. */
    private static final class Source {
        final Draw draw;
        final int[] points;
        // With c near the difference of two times few are refused and many paths are the same.
        final long[] times = new long[POINTS];
        final long least;
        final long greatest;
        final long unit;
        final int adding;

        Source(int seed, boolean wide) {
            draw = new Draw(seed);
            points = wide ? allPoints() : somePoints();
            for (int p = 0; wide && p < POINTS; p++) times[p] = draw.below(9);
            least = wide ? -draw.below(2) : -draw.below(4);
            greatest = draw.below(7);
            unit = draw.below(5) == 0 ? MOST / 20 : 1;
            adding = wide ? 8 + draw.below(8) : 1 + draw.below(40);
        }

        private static int[] allPoints() {
            int[] all = new int[POINTS];
            for (int p = 0; p < POINTS; p++) all[p] = p;
            return all;
        }

        private int[] somePoints() {
            int[] some = new int[2 + draw.below(5)];
            for (int n = 0; n < some.length; n++) some[n] = draw.below(POINTS);
            if (draw.below(2) == 0) some[0] = 0;
            return some;
        }

        int point() {
            int pick = draw.below(60);
            if (pick == 0) return -1 - draw.below(3);
            if (pick == 1) return 20 + draw.below(3);
            return points[draw.below(points.length)];
        }

        long c(int i, int j) {
            int pick = draw.below(80);
            if (pick == 0) return MOST + 1;
            if (pick == 1) return -MOST - 1;
            if (pick == 2) return MOST;
            if (pick == 3) return -MOST;
            long apart = Model.isPoint(i) && Model.isPoint(j) ? times[j] - times[i] : 0;
            return (apart + least + draw.below((int) (greatest - least) + 1)) * unit;
        }

        int number(int count) {
            return draw.below(count + 4) - 2;
        }
    }

    public static void main(String[] args) {
        for (int run = 0; run < NARROW_RUNS && wrong < 20; run++) {
            new Run("run " + run, new Source(run, false), new Model()).go();
        }
        for (int run = 0; run < WIDE_RUNS && wrong < 20; run++) {
            new Run("wide run " + run, new Source(run, true), new WideModel()).go();
        }
        System.out.println(wrong == 0 ? "all answers are as due" : wrong + " answers are not as due");
        if (wrong != 0) System.exit(1);
    }

    /** One object and its model; no more than 512 calls, as what later ones answer is free. */
    private static final class Run {
        final String name;
        final Source source;
        final TimeNet net = new TimeNet();
        final Model model;
        int calls = 0;

        Run(String name, Source source, Model model) {
            this.name = name;
            this.source = source;
            this.model = model;
        }

        void go() {
            while (calls + 1 + callsForRow() <= CALLS) {
                int rowsBefore = model.rowsWritten;
                callOne(source.draw.below(12 + source.adding));
                boolean written = model.rowsWritten > rowsBefore;
                // The row of a witness may be longer than the one there was room for.
                boolean room = calls + callsForRow() <= CALLS;
                if (room && (written || source.draw.below(8) == 0)) dueRow();
            }
        }

        private int callsForRow() {
            return model.row.size() + 3;
        }

        private void callOne(int kind) {
            calls++;
            if (kind >= 12) {
                int i = source.point();
                int j = source.point();
                long c = source.c(i, j);
                due("add(" + i + ", " + j + ", " + c + ")", net.add(i, j, c), model.add(i, j, c));
            } else if (kind < 5) {
                numberCall(kind, source.number(model.constraints.size()));
            } else {
                pointCall(kind, source.point(), source.point());
            }
        }

        private void numberCall(int kind, int k) {
            switch (kind) {
                case 0 -> due("off(" + k + ")", net.off(k) ? 1 : 0, model.off(k) ? 1 : 0);
                case 1, 2 -> due("on(" + k + ")", net.on(k), model.on(k));
                case 3 -> due("slack(" + k + ")", net.slack(k), model.slack(k));
                default -> due("alive()", net.alive(), model.alive());
            }
        }

        private void pointCall(int kind, int i, int j) {
            String at = "(" + i + ", " + j + ")";
            switch (kind) {
                case 5, 6 -> due("path" + at, net.path(i, j), model.path(i, j));
                case 7, 8 -> due("steps" + at, net.steps(i, j), stepsOf(model.best(i, j)));
                case 9, 10 -> dueBound("bound" + at, i, j);
                default -> dueEarliest("earliest(" + i + ")", i);
            }
        }

        private int stepsOf(Path best) {
            return best == null ? -1 : best.points().size() - 1;
        }

        private void dueBound(String call, int i, int j) {
            boolean throwing = !Model.isPoint(i) || !Model.isPoint(j);
            Path best = model.best(i, j);
            try {
                due(call, net.bound(i, j), best == null ? Long.MAX_VALUE : best.length());
                due(call + " throws", 0, throwing ? 1 : 0);
            } catch (NoSuchElementException e) {
                due(call + " throws", 1, throwing ? 1 : 0);
            }
        }

        private void dueEarliest(String call, int i) {
            boolean throwing = !Model.isPoint(i);
            Path best = model.best(i, 0);
            try {
                due(call, net.earliest(i), best == null ? Long.MIN_VALUE : -best.length());
                due(call + " throws", 0, throwing ? 1 : 0);
            } catch (NoSuchElementException e) {
                due(call + " throws", 1, throwing ? 1 : 0);
            }
        }

        private void dueRow() {
            calls += callsForRow();
            int[] want = model.row.stream().mapToInt(Integer::intValue).toArray();
            int[] got = new int[want.length];
            for (int k = 0; k < got.length; k++) got[k] = net.rowAt(k);
            due("row()", net.row(), want.length);
            due("rowAt(" + want.length + ")", net.rowAt(want.length), -1);
            due("length()", net.length(), model.length);
            if (!Arrays.equals(got, want)) {
                due("the row is " + Arrays.toString(got) + " for " + Arrays.toString(want), 0, 1);
            }
        }

        private void due(String call, long got, long want) {
            if (got != want) {
                wrong++;
                System.out.println(name + ", call " + calls + ": " + call
                        + " answered " + got + ", due is " + want);
            }
        }
    }
}
