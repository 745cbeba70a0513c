import java.util.NoSuchElementException;
import java.util.function.Consumer;

/** Each boundary case that the document names, by a test of its own on a new object. */
public final class TimeNetEdgesTest {
    private static final int NONE = -1;
    private static final int REFUSED = -2;
    private static final long MOST = 1_000_000_000_000L;
    private static final int[] BELOW_0 = {-1, -2, -19, -20, -256, Integer.MIN_VALUE};
    // 256, 65536 and 2^30 are there because they would be points if they were cut to fewer bits.
    private static final int[] ABOVE_19 = {20, 21, 120, 256, 65536, 1 << 30, Integer.MAX_VALUE};
    private static final int[] ABOVE_119 = {120, 121, 128, 256, 65536, 1 << 30, Integer.MAX_VALUE};

    private static String edge = "";
    private static int edges = 0;
    private static int wrong = 0;

    public static void main(String[] args) {
        newObject();
        addPoints();
        addAmounts();
        addNotAsSaid();
        addFull();
        addRefused();
        addWitness();
        off();
        on();
        onRefused();
        bound();
        steps();
        path();
        pathTies();
        row();
        rowAt();
        length();
        earliest();
        slack();
        alive();
        calls();
        System.out.println(edges + " edges, "
                + (wrong == 0 ? "all answers are as due" : wrong + " answers are not as due"));
        if (wrong != 0) System.exit(1);
    }

    private static void edge(String sentence, Consumer<TimeNet> test) {
        edge = sentence;
        edges++;
        try {
            test.accept(new TimeNet());
        } catch (RuntimeException e) {
            tell("threw " + e);
        }
    }

    private static void tell(String what) {
        wrong++;
        System.out.println(edge + ": " + what);
    }

    private static void due(String call, long got, long want) {
        if (got != want) tell(call + " answered " + got + ", due is " + want);
    }

    private static void due(String call, boolean got, boolean want) {
        if (got != want) tell(call + " answered " + got + ", due is " + want);
    }

    private static void dueNoSuchElement(String call, Runnable run) {
        try {
            run.run();
            tell(call + " threw nothing, due is NoSuchElementException");
        } catch (NoSuchElementException e) {
            if (e.getClass() != NoSuchElementException.class) tell(call + " threw " + e);
        }
    }

    private static void dueRow(TimeNet net, int... points) {
        due("row()", net.row(), points.length);
        for (int k = 0; k < points.length; k++) due("rowAt(" + k + ")", net.rowAt(k), points[k]);
        due("rowAt(" + points.length + ")", net.rowAt(points.length), NONE);
    }

    /** Constraints of the same c from each of these points to the next one. */
    private static void chain(TimeNet net, long c, int... points) {
        for (int k = 0; k + 1 < points.length; k++) net.add(points[k], points[k + 1], c);
    }

    /** As chain, but the last one comes first. */
    private static void chainFromEnd(TimeNet net, long c, int... points) {
        for (int k = points.length - 2; k >= 0; k--) net.add(points[k], points[k + 1], c);
    }

    private static int[] allPoints() {
        int[] points = new int[20];
        for (int p = 0; p < 20; p++) points[p] = p;
        return points;
    }

    /** All points with the last one ahead of them: the row of the longest witness. */
    private static int[] allPointsAround() {
        int[] points = new int[21];
        points[0] = 19;
        for (int p = 0; p < 20; p++) points[p + 1] = p;
        return points;
    }

    /** 120 constraints from 0 to 1, that of number k with c = k. */
    private static void fill(TimeNet net) {
        for (int k = 0; k < 120; k++) due("add of number " + k, net.add(0, 1, k), k);
    }

    private static void newObject() {
        edge("1: no constraints to be off, on or slack", net -> {
            for (int k = -1; k <= 120; k++) {
                due("off(" + k + ")", net.off(k), false);
                due("on(" + k + ")", net.on(k), NONE);
                due("slack(" + k + ")", net.slack(k), NONE);
            }
        });
        edge("1: no constraints are on", net -> due("alive()", net.alive(), 0));
        edge("1: no constraints bound a point", net -> {
            for (int i = 0; i < 20; i++) {
                for (int j = 0; j < 20; j++) {
                    long want = i == j ? 0 : Long.MAX_VALUE;
                    due("bound(" + i + ", " + j + ")", net.bound(i, j), want);
                }
            }
        });
        edge("1: an empty row", net -> {
            due("row()", net.row(), 0);
            for (int k = -1; k <= 21; k++) due("rowAt(" + k + ")", net.rowAt(k), NONE);
            due("length()", net.length(), 0);
        });
        edge("1: another object's constraints and row aren't its own", net -> {
            net.add(0, 1, 3);
            net.path(0, 1);
            TimeNet other = new TimeNet();
            due("alive()", other.alive(), 0);
            due("row()", other.row(), 0);
            due("length()", other.length(), 0);
            due("add(1, 0, -4)", other.add(1, 0, -4), 0);
            dueRow(net, 0, 1);
            due("bound(1, 0) of the first", net.bound(1, 0), Long.MAX_VALUE);
        });
    }

    private static void addPoints() {
        edge("2: i below 0", net -> {
            for (int p : BELOW_0) due("add(" + p + ", 1, 0)", net.add(p, 1, 0), NONE);
        });
        edge("2: i above 19", net -> {
            for (int p : ABOVE_19) due("add(" + p + ", 1, 0)", net.add(p, 1, 0), NONE);
        });
        edge("2: j below 0", net -> {
            for (int p : BELOW_0) due("add(1, " + p + ", 0)", net.add(1, p, 0), NONE);
        });
        edge("2: j above 19", net -> {
            for (int p : ABOVE_19) due("add(1, " + p + ", 0)", net.add(1, p, 0), NONE);
        });
        edge("2: neither i nor j a point", net -> {
            due("add(-1, 20, 0)", net.add(-1, 20, 0), NONE);
            due("add(20, -1, 0)", net.add(20, -1, 0), NONE);
            due("add(20, 20, 0)", net.add(20, 20, 0), NONE);
        });
        edge("2: i may be 0, j may be 19", net -> {
            due("add(0, 19, 4)", net.add(0, 19, 4), 0);
            due("bound(0, 19)", net.bound(0, 19), 4);
        });
        edge("2: i may be 19, j may be 0", net -> {
            due("add(19, 0, 4)", net.add(19, 0, 4), 0);
            due("bound(19, 0)", net.bound(19, 0), 4);
        });
        edge("2: i and j the same", net -> {
            for (int p = 0; p < 20; p++) {
                due("add(" + p + ", " + p + ", 0)", net.add(p, p, 0), NONE);
                due("add(" + p + ", " + p + ", 1)", net.add(p, p, 1), NONE);
                due("add(" + p + ", " + p + ", -1)", net.add(p, p, -1), NONE);
            }
        });
    }

    private static void addAmounts() {
        edge("2: c below -10^12", net -> {
            long[] tooSmall = {-MOST - 1, -2 * MOST, -(1L << 40), 1L << 63, (1L << 63) + 1};
            for (long c : tooSmall) due("add(0, 1, " + c + ")", net.add(0, 1, c), NONE);
        });
        edge("2: c above 10^12", net -> {
            // The last two would be 0 and 5 if they were cut to fewer bits.
            long[] tooLarge = {MOST + 1, 2 * MOST, Long.MAX_VALUE, 1L << 40, (1L << 40) + 5};
            for (long c : tooLarge) due("add(0, 1, " + c + ")", net.add(0, 1, c), NONE);
        });
        edge("2: c may be -10^12", net -> {
            due("add(0, 1, -10^12)", net.add(0, 1, -MOST), 0);
            due("bound(0, 1)", net.bound(0, 1), -MOST);
        });
        edge("2: c may be 10^12", net -> {
            due("add(0, 1, 10^12)", net.add(0, 1, MOST), 0);
            due("bound(0, 1)", net.bound(0, 1), MOST);
        });
        edge("2: c may be 0", net -> {
            due("add(0, 1, 0)", net.add(0, 1, 0), 0);
            due("bound(0, 1)", net.bound(0, 1), 0);
        });
        edge("2: c is not cut to an int", net -> {
            due("add(0, 1, 2^32 + 5)", net.add(0, 1, (1L << 32) + 5), 0);
            due("bound(0, 1)", net.bound(0, 1), (1L << 32) + 5);
        });
    }

    private static void addNotAsSaid() {
        edge("2: one that isn't as said gets no number and isn't on", net -> {
            net.add(0, 1, 1);
            net.add(2, 2, 1);
            net.add(2, 20, 1);
            net.add(-1, 2, 1);
            net.add(2, 3, MOST + 1);
            due("alive()", net.alive(), 1);
            due("bound(2, 3)", net.bound(2, 3), Long.MAX_VALUE);
            due("off(1)", net.off(1), false);
            due("add(2, 3, 1)", net.add(2, 3, 1), 1);
        });
        edge("2: one that isn't as said leaves the row", net -> {
            net.add(0, 1, 1);
            net.path(0, 1);
            net.add(1, 1, -5);
            net.add(1, 20, -5);
            net.add(-1, 0, -5);
            due("add(1, 0, -10^12 - 1)", net.add(1, 0, -MOST - 1), NONE);
            dueRow(net, 0, 1);
            due("length()", net.length(), 1);
        });
    }

    private static void addFull() {
        edge("2: numbers 0 to 119 come in their order", TimeNetEdgesTest::fill);
        edge("2: 120 are there", net -> {
            fill(net);
            due("add(2, 3, 1)", net.add(2, 3, 1), NONE);
            due("bound(2, 3)", net.bound(2, 3), Long.MAX_VALUE);
            due("alive()", net.alive(), 120);
        });
        edge("2: 120 are there, all of them off", net -> {
            fill(net);
            for (int k = 0; k < 120; k++) net.off(k);
            due("add(2, 3, 1)", net.add(2, 3, 1), NONE);
            due("alive()", net.alive(), 0);
        });
        edge("2: 120 are there and one comes that can't be with them", net -> {
            fill(net);
            net.path(0, 1);
            due("add(1, 0, -1)", net.add(1, 0, -1), NONE);
            dueRow(net, 0, 1);
            due("length()", net.length(), 0);
        });
        edge("2: 120 are there and one comes that isn't as said", net -> {
            fill(net);
            due("add(3, 3, 1)", net.add(3, 3, 1), NONE);
            due("add(20, 3, 1)", net.add(20, 3, 1), NONE);
        });
        edge("2: refused ones are none of the 120", net -> {
            for (int k = 0; k < 119; k++) net.add(0, 1, k);
            for (int n = 0; n < 5; n++) due("add(1, 0, -1)", net.add(1, 0, -1), REFUSED);
            due("add(1, 0, 0)", net.add(1, 0, 0), 119);
            due("add(2, 3, 1)", net.add(2, 3, 1), NONE);
        });
        edge("2: ones that aren't as said are none of the 120", net -> {
            for (int k = 0; k < 119; k++) net.add(0, 1, k);
            for (int n = 0; n < 5; n++) due("add(1, 1, 0)", net.add(1, 1, 0), NONE);
            due("add(1, 0, 0)", net.add(1, 0, 0), 119);
            due("add(2, 3, 1)", net.add(2, 3, 1), NONE);
        });
        edge("2: the last of the 120 is like the others", net -> {
            for (int k = 0; k < 119; k++) net.add(0, 1, k);
            due("add(1, 2, 7)", net.add(1, 2, 7), 119);
            due("bound(0, 2)", net.bound(0, 2), 7);
            net.path(0, 2);
            dueRow(net, 0, 1, 2);
        });
    }

    private static void addRefused() {
        edge("2: a path to itself of length 0 is not refused", net -> {
            chain(net, 2, 4, 5, 6);
            due("add(6, 4, -4)", net.add(6, 4, -4), 2);
            due("row()", net.row(), 0);
        });
        edge("2: a path to itself of length -1 is refused", net -> {
            chain(net, 2, 4, 5, 6);
            due("add(6, 4, -5)", net.add(6, 4, -5), REFUSED);
        });
        edge("2: the limits together make 0 and are not refused", net -> {
            net.add(4, 5, MOST);
            due("add(5, 4, -10^12)", net.add(5, 4, -MOST), 1);
        });
        edge("2: -10^12 with 10^12 - 1 is refused", net -> {
            net.add(4, 5, MOST - 1);
            due("add(5, 4, -10^12)", net.add(5, 4, -MOST), REFUSED);
        });
        edge("2: 10^12 is refused where the way back is shorter yet", net -> {
            chain(net, -MOST, 4, 5, 6);
            due("add(6, 4, 10^12)", net.add(6, 4, MOST), REFUSED);
        });
        edge("2: without a way back nothing is refused", net -> {
            due("add(4, 5, -10^12)", net.add(4, 5, -MOST), 0);
            due("add(4, 5, -10^12) again", net.add(4, 5, -MOST), 1);
            due("add(5, 6, -10^12)", net.add(5, 6, -MOST), 2);
        });
        edge("2: the way back is by what is on", net -> {
            net.add(4, 5, 1);
            net.off(0);
            due("add(5, 4, -2)", net.add(5, 4, -2), 1);
        });
        edge("2: a refused one gets no number", net -> {
            net.add(4, 5, 1);
            net.add(5, 4, -2);
            due("off(1)", net.off(1), false);
            due("on(1)", net.on(1), NONE);
            due("slack(1)", net.slack(1), NONE);
            due("add(8, 9, 0)", net.add(8, 9, 0), 1);
        });
        edge("2: a refused one bounds nothing", net -> {
            chain(net, 1, 4, 5, 6);
            net.add(6, 4, -3);
            due("bound(6, 4)", net.bound(6, 4), Long.MAX_VALUE);
            due("bound(4, 4)", net.bound(4, 4), 0);
            due("alive()", net.alive(), 2);
            due("add(6, 4, -2)", net.add(6, 4, -2), 2);
        });
        edge("2: one that comes leaves the row", net -> {
            net.add(4, 5, 1);
            net.path(4, 5);
            net.add(5, 4, 9);
            net.add(4, 5, 0);
            dueRow(net, 4, 5);
            due("length()", net.length(), 1);
        });
    }

    private static void addWitness() {
        edge("2: the least witness: first point, second, first again", net -> {
            net.add(4, 5, 1);
            net.add(5, 4, -2);
            dueRow(net, 5, 4, 5);
        });
        edge("2: the longest witness goes through all points", net -> {
            chain(net, -1, allPoints());
            due("add(19, 0, 18)", net.add(19, 0, 18), REFUSED);
            dueRow(net, allPointsAround());
            due("length()", net.length(), -1);
        });
        edge("2: the witness goes back by the least length", net -> {
            net.add(4, 6, 5);
            chain(net, 2, 4, 5, 6);
            net.add(6, 4, -6);
            dueRow(net, 6, 4, 5, 6);
        });
        edge("2: the witness goes back by the least length even if others would do", net -> {
            net.add(4, 6, 5);
            chain(net, 2, 4, 7, 6);
            net.add(6, 4, -MOST);
            dueRow(net, 6, 4, 7, 6);
        });
        edge("2: the witness goes back by the fewest steps", net -> {
            chain(net, 1, 4, 1, 2, 6);
            net.add(4, 8, 1);
            net.add(8, 6, 2);
            net.add(6, 4, -4);
            dueRow(net, 6, 4, 8, 6);
        });
        edge("2: the witness goes back by the least points", net -> {
            chain(net, 1, 4, 9, 1, 6);
            chain(net, 1, 4, 8, 3, 6);
            chain(net, 1, 4, 8, 2, 6);
            net.add(6, 4, -4);
            dueRow(net, 6, 4, 8, 2, 6);
        });
        edge("2: the witness has the least c of several", net -> {
            net.add(4, 5, 3);
            net.add(4, 5, 1);
            net.add(4, 5, 2);
            due("add(5, 4, -1)", net.add(5, 4, -1), 3);
            due("add(5, 4, -2)", net.add(5, 4, -2), REFUSED);
            due("length()", net.length(), -1);
        });
        edge("2: the witness is by what is on", net -> {
            net.add(4, 6, 1);
            chain(net, 1, 4, 5, 6);
            net.off(0);
            net.add(6, 4, -3);
            dueRow(net, 6, 4, 5, 6);
            due("length()", net.length(), -1);
        });
        edge("2: the witness has the one refused, not one as it that is on", net -> {
            net.add(4, 5, 1);
            net.add(5, 4, -1);
            net.add(5, 4, -7);
            dueRow(net, 5, 4, 5);
            due("length()", net.length(), -6);
        });
        edge("2: a witness takes the place of a longer row", net -> {
            chain(net, 1, 4, 5, 6, 7, 8);
            net.path(4, 8);
            net.add(5, 4, -2);
            dueRow(net, 5, 4, 5);
        });
        edge("2: a witness takes the place of another one", net -> {
            chain(net, 1, 4, 5, 6);
            net.add(6, 4, -3);
            net.add(6, 5, -9);
            dueRow(net, 6, 5, 6);
            due("length()", net.length(), -8);
        });
    }

    private static void off() {
        edge("3: it is off from now on", net -> {
            net.add(1, 2, 5);
            due("off(0)", net.off(0), true);
            due("bound(1, 2)", net.bound(1, 2), Long.MAX_VALUE);
            net.add(3, 4, 1);
            due("bound(1, 2) later", net.bound(1, 2), Long.MAX_VALUE);
        });
        edge("3: it was off already", net -> {
            net.add(1, 2, 5);
            net.off(0);
            due("off(0)", net.off(0), false);
            due("off(0) a third time", net.off(0), false);
            due("bound(1, 2)", net.bound(1, 2), Long.MAX_VALUE);
            due("alive()", net.alive(), 0);
        });
        edge("3: it was off, but is on again", net -> {
            net.add(1, 2, 5);
            net.off(0);
            net.on(0);
            due("off(0)", net.off(0), true);
        });
        edge("3: it is off still when on was refused", net -> {
            net.add(1, 2, 5);
            net.off(0);
            net.add(2, 1, -6);
            net.on(0);
            due("off(0)", net.off(0), false);
        });
        edge("3: there is none of a number below 0", net -> {
            net.add(1, 2, 5);
            for (int k : BELOW_0) due("off(" + k + ")", net.off(k), false);
            due("alive()", net.alive(), 1);
        });
        edge("3: the last number and the one behind it", net -> {
            net.add(1, 2, 5);
            net.add(2, 3, 5);
            due("off(2)", net.off(2), false);
            due("off(1)", net.off(1), true);
            due("alive()", net.alive(), 1);
        });
        edge("3: there is none of a number above 119", net -> {
            fill(net);
            for (int k : ABOVE_119) due("off(" + k + ")", net.off(k), false);
            due("off(119)", net.off(119), true);
            due("alive()", net.alive(), 119);
        });
        edge("3: the others keep their numbers", net -> {
            net.add(1, 2, 5);
            net.add(2, 3, 6);
            net.off(0);
            due("add(3, 4, 7)", net.add(3, 4, 7), 2);
            due("off(1)", net.off(1), true);
            due("bound(2, 3)", net.bound(2, 3), Long.MAX_VALUE);
            due("bound(3, 4)", net.bound(3, 4), 7);
        });
        edge("3: another one from and to the same points stays on", net -> {
            net.add(1, 2, 5);
            net.add(1, 2, 5);
            net.off(0);
            due("bound(1, 2)", net.bound(1, 2), 5);
        });
        edge("3: the row stays, be the answer true or false", net -> {
            net.add(1, 2, 5);
            net.path(1, 2);
            net.off(0);
            net.off(0);
            net.off(7);
            dueRow(net, 1, 2);
            due("length()", net.length(), 5);
        });
    }

    private static void on() {
        edge("4: it is on again, with its number", net -> {
            net.add(1, 2, 5);
            net.add(2, 3, 6);
            net.off(1);
            due("on(1)", net.on(1), 1);
            due("bound(1, 3)", net.bound(1, 3), 11);
        });
        edge("4: number 0", net -> {
            net.add(1, 2, 5);
            net.off(0);
            due("on(0)", net.on(0), 0);
            due("bound(1, 2)", net.bound(1, 2), 5);
        });
        edge("4: number 119, when 120 are there", net -> {
            fill(net);
            net.off(119);
            due("on(119)", net.on(119), 119);
            due("alive()", net.alive(), 120);
        });
        edge("4: it is on", net -> {
            net.add(1, 2, 5);
            net.add(2, 1, -5);
            net.path(1, 2);
            due("on(0)", net.on(0), NONE);
            due("on(1)", net.on(1), NONE);
            due("alive()", net.alive(), 2);
            dueRow(net, 1, 2);
        });
        edge("4: it is on again already", net -> {
            net.add(1, 2, 5);
            net.off(0);
            net.on(0);
            due("on(0)", net.on(0), NONE);
            due("alive()", net.alive(), 1);
        });
        edge("4: there is none of a number below 0", net -> {
            net.add(1, 2, 5);
            net.off(0);
            for (int k : BELOW_0) due("on(" + k + ")", net.on(k), NONE);
            due("alive()", net.alive(), 0);
        });
        edge("4: there is none of the number behind the last", net -> {
            net.add(1, 2, 5);
            due("on(1)", net.on(1), NONE);
            due("alive()", net.alive(), 1);
            due("add(2, 3, 1)", net.add(2, 3, 1), 1);
        });
        edge("4: there is none of a number above 119", net -> {
            fill(net);
            net.off(0);
            for (int k : ABOVE_119) due("on(" + k + ")", net.on(k), NONE);
            due("alive()", net.alive(), 119);
        });
        edge("4: the row stays when it is on again or there is none", net -> {
            net.add(1, 2, 5);
            net.path(1, 2);
            net.off(0);
            net.on(0);
            net.on(1);
            net.on(-1);
            dueRow(net, 1, 2);
            due("length()", net.length(), 5);
        });
    }

    private static void onRefused() {
        edge("4: refused at -1", net -> {
            net.add(1, 2, 5);
            net.off(0);
            net.add(2, 1, -6);
            due("on(0)", net.on(0), REFUSED);
        });
        edge("4: not refused at 0", net -> {
            net.add(1, 2, 5);
            net.off(0);
            net.add(2, 1, -5);
            due("on(0)", net.on(0), 0);
            due("row()", net.row(), 0);
        });
        edge("4: refused, the row is its witness", net -> {
            net.add(1, 2, 5);
            net.off(0);
            chain(net, -3, 2, 3, 1);
            net.path(2, 3);
            net.on(0);
            dueRow(net, 1, 2, 3, 1);
            due("length()", net.length(), -1);
        });
        edge("4: refused, the longest witness", net -> {
            net.add(19, 0, 18);
            net.off(0);
            chain(net, -1, allPoints());
            due("on(0)", net.on(0), REFUSED);
            dueRow(net, allPointsAround());
        });
        edge("4: refused, the witness goes back by the best path", net -> {
            net.add(6, 4, -4);
            net.off(0);
            chain(net, 1, 4, 9, 1, 6);
            chain(net, 1, 4, 8, 3, 6);
            chain(net, 1, 4, 8, 2, 6);
            net.on(0);
            dueRow(net, 6, 4, 8, 2, 6);
        });
        edge("4: refused, it stays off", net -> {
            net.add(1, 2, 5);
            net.off(0);
            net.add(2, 1, -6);
            net.on(0);
            due("bound(1, 2)", net.bound(1, 2), Long.MAX_VALUE);
            due("alive()", net.alive(), 1);
            due("slack(0)", net.slack(0), NONE);
            due("on(0) again", net.on(0), REFUSED);
        });
        edge("4: refused, and on again when nothing is in its way", net -> {
            net.add(1, 2, 5);
            net.off(0);
            net.add(2, 1, -6);
            net.on(0);
            net.off(1);
            due("on(0)", net.on(0), 0);
            due("bound(1, 2)", net.bound(1, 2), 5);
            due("on(1)", net.on(1), REFUSED);
            dueRow(net, 2, 1, 2);
        });
        edge("4: 120 are there, and it is refused nonetheless", net -> {
            for (int k = 0; k < 119; k++) net.add(0, 1, k);
            net.off(0);
            due("add(1, 0, -1)", net.add(1, 0, -1), 119);
            due("on(0)", net.on(0), REFUSED);
            dueRow(net, 0, 1, 0);
        });
    }

    private static void bound() {
        edge("5: no path, as there is none out of i", net -> {
            net.add(2, 1, 5);
            due("bound(1, 2)", net.bound(1, 2), 9223372036854775807L);
        });
        edge("5: no path, as one on the way is off", net -> {
            chain(net, 1, 1, 2, 3);
            net.off(1);
            due("bound(1, 3)", net.bound(1, 3), 9223372036854775807L);
        });
        edge("5: no path, as the ways don't meet", net -> {
            chain(net, -1, 1, 2);
            chain(net, -1, 3, 4);
            due("bound(1, 4)", net.bound(1, 4), 9223372036854775807L);
            due("bound(1, 3)", net.bound(1, 3), 9223372036854775807L);
        });
        edge("5: i no such point", net -> {
            for (int p : BELOW_0) dueNoSuchElement("bound(" + p + ", 1)", () -> net.bound(p, 1));
            for (int p : ABOVE_19) dueNoSuchElement("bound(" + p + ", 1)", () -> net.bound(p, 1));
        });
        edge("5: j no such point", net -> {
            for (int p : BELOW_0) dueNoSuchElement("bound(1, " + p + ")", () -> net.bound(1, p));
            for (int p : ABOVE_19) dueNoSuchElement("bound(1, " + p + ")", () -> net.bound(1, p));
        });
        edge("5: neither i nor j such a point, though the same", net -> {
            dueNoSuchElement("bound(-1, -1)", () -> net.bound(-1, -1));
            dueNoSuchElement("bound(20, 20)", () -> net.bound(20, 20));
            dueNoSuchElement("bound(-1, 20)", () -> net.bound(-1, 20));
        });
        edge("5: what throws changes nothing", net -> {
            net.add(0, 1, 5);
            net.path(0, 1);
            dueNoSuchElement("bound(0, 20)", () -> net.bound(0, 20));
            dueNoSuchElement("bound(-1, 0)", () -> net.bound(-1, 0));
            dueRow(net, 0, 1);
            due("length()", net.length(), 5);
            due("alive()", net.alive(), 1);
            due("bound(0, 1)", net.bound(0, 1), 5);
        });
        edge("5: points 0 and 19 are such points", net -> {
            net.add(0, 19, 3);
            due("bound(0, 19)", net.bound(0, 19), 3);
            due("bound(19, 0)", net.bound(19, 0), Long.MAX_VALUE);
            due("bound(0, 0)", net.bound(0, 0), 0);
            due("bound(19, 19)", net.bound(19, 19), 0);
        });
        edge("5: from a point to itself, round it a way above 0", net -> {
            chain(net, 3, 1, 2, 1);
            due("bound(1, 1)", net.bound(1, 1), 0);
        });
        edge("5: from a point to itself, round it a way of 0", net -> {
            net.add(1, 2, -3);
            net.add(2, 1, 3);
            due("bound(1, 1)", net.bound(1, 1), 0);
            due("bound(2, 2)", net.bound(2, 2), 0);
            due("bound(1, 2)", net.bound(1, 2), -3);
        });
        edge("5: the greatest length", net -> {
            chain(net, MOST, allPoints());
            due("bound(0, 19)", net.bound(0, 19), 19 * MOST);
        });
        edge("5: the least length", net -> {
            chain(net, -MOST, allPoints());
            due("bound(0, 19)", net.bound(0, 19), -19 * MOST);
        });
        edge("5: the points may be as far apart as the bound says, and no farther", net -> {
            chain(net, 2, 1, 2, 3);
            net.add(1, 3, 5);
            long farthest = net.bound(1, 3);
            due("add(3, 1, -farthest - 1)", net.add(3, 1, -farthest - 1), REFUSED);
            due("add(3, 1, -farthest)", net.add(3, 1, -farthest), 3);
        });
        edge("5: of several constraints the least c counts", net -> {
            net.add(1, 2, 5);
            net.add(1, 2, 4);
            net.add(1, 2, 6);
            due("bound(1, 2)", net.bound(1, 2), 4);
            net.off(1);
            due("bound(1, 2) with that off", net.bound(1, 2), 5);
        });
    }

    private static void steps() {
        edge("6: no path", net -> {
            net.add(2, 1, 5);
            due("steps(1, 2)", net.steps(1, 2), NONE);
            due("steps(0, 19)", net.steps(0, 19), NONE);
        });
        edge("6: no path, as one on the way is off", net -> {
            chain(net, 1, 1, 2, 3);
            net.off(0);
            due("steps(1, 3)", net.steps(1, 3), NONE);
        });
        edge("6: i no such point", net -> {
            net.add(0, 1, 5);
            for (int p : BELOW_0) due("steps(" + p + ", 1)", net.steps(p, 1), NONE);
            for (int p : ABOVE_19) due("steps(" + p + ", 1)", net.steps(p, 1), NONE);
        });
        edge("6: j no such point", net -> {
            net.add(1, 0, 5);
            for (int p : BELOW_0) due("steps(1, " + p + ")", net.steps(1, p), NONE);
            for (int p : ABOVE_19) due("steps(1, " + p + ")", net.steps(1, p), NONE);
        });
        edge("6: neither i nor j such a point, though the same", net -> {
            due("steps(-1, -1)", net.steps(-1, -1), NONE);
            due("steps(20, 20)", net.steps(20, 20), NONE);
        });
        edge("6: the path of no constraints", net -> {
            for (int p = 0; p < 20; p++) due("steps(" + p + ", " + p + ")", net.steps(p, p), 0);
        });
        edge("6: the path of no constraints, round it a way of 0", net -> {
            net.add(1, 2, -3);
            net.add(2, 1, 3);
            due("steps(1, 1)", net.steps(1, 1), 0);
            due("steps(2, 2)", net.steps(2, 2), 0);
        });
        edge("6: the most steps", net -> {
            chain(net, -1, allPoints());
            due("steps(0, 19)", net.steps(0, 19), 19);
        });
        edge("6: the least length goes ahead of the fewest steps", net -> {
            net.add(1, 3, 3);
            chain(net, 1, 1, 2, 3);
            due("steps(1, 3)", net.steps(1, 3), 2);
        });
        edge("6: of the same length the fewest steps", net -> {
            chain(net, 1, 1, 2, 3);
            due("steps(1, 3) by 2", net.steps(1, 3), 2);
            net.add(1, 3, 2);
            due("steps(1, 3)", net.steps(1, 3), 1);
        });
        edge("6: the fewest steps, though more of them came first from the end on", net -> {
            chainFromEnd(net, 1, 1, 2, 3, 4);
            net.add(1, 9, 2);
            net.add(9, 4, 1);
            due("steps(1, 4)", net.steps(1, 4), 2);
        });
        edge("6: the fewest steps beside ways of 0", net -> {
            net.add(1, 2, 0);
            net.add(2, 1, 0);
            net.add(2, 3, 0);
            net.add(3, 2, 0);
            net.add(1, 3, 0);
            due("steps(1, 3)", net.steps(1, 3), 1);
            due("steps(3, 1)", net.steps(3, 1), 2);
        });
        edge("6: the row stays", net -> {
            chain(net, 1, 1, 2, 3);
            net.path(2, 3);
            net.steps(1, 3);
            net.steps(3, 1);
            net.steps(-1, 3);
            dueRow(net, 2, 3);
            due("length()", net.length(), 1);
        });
    }

    private static void path() {
        edge("7: no path changes nothing in an empty row", net -> {
            due("path(1, 2)", net.path(1, 2), NONE);
            due("row()", net.row(), 0);
            due("length()", net.length(), 0);
        });
        edge("7: no path changes nothing in the row of a path", net -> {
            chain(net, 4, 1, 2, 3);
            net.path(1, 3);
            due("path(3, 1)", net.path(3, 1), NONE);
            dueRow(net, 1, 2, 3);
            due("length()", net.length(), 8);
        });
        edge("7: no path changes nothing in the row of a witness", net -> {
            net.add(1, 2, 4);
            net.add(2, 1, -9);
            due("path(2, 1)", net.path(2, 1), NONE);
            dueRow(net, 2, 1, 2);
            due("length()", net.length(), -5);
        });
        edge("7: no path, as one on the way is off", net -> {
            chain(net, 4, 1, 2, 3);
            net.path(1, 2);
            net.off(1);
            due("path(1, 3)", net.path(1, 3), NONE);
            dueRow(net, 1, 2);
        });
        edge("7: no such points, so no path", net -> {
            net.add(0, 1, 4);
            net.path(0, 1);
            for (int p : BELOW_0) {
                due("path(" + p + ", 1)", net.path(p, 1), NONE);
                due("path(0, " + p + ")", net.path(0, p), NONE);
                due("path(" + p + ", " + p + ")", net.path(p, p), NONE);
            }
            for (int p : ABOVE_19) {
                due("path(" + p + ", 1)", net.path(p, 1), NONE);
                due("path(0, " + p + ")", net.path(0, p), NONE);
                due("path(" + p + ", " + p + ")", net.path(p, p), NONE);
            }
            dueRow(net, 0, 1);
            due("length()", net.length(), 4);
        });
        edge("7: from a point to itself", net -> {
            for (int p = 0; p < 20; p++) {
                due("path(" + p + ", " + p + ")", net.path(p, p), 1);
                dueRow(net, p);
            }
        });
        edge("7: from a point to itself, round it a way of 0", net -> {
            net.add(1, 2, -3);
            net.add(2, 1, 3);
            due("path(1, 1)", net.path(1, 1), 1);
            dueRow(net, 1);
        });
        edge("7: through all points", net -> {
            chain(net, 1, allPoints());
            due("path(0, 19)", net.path(0, 19), 20);
            dueRow(net, allPoints());
        });
        edge("7: a longer row takes the place of a shorter, and back", net -> {
            chain(net, 1, 4, 5, 6, 7);
            net.path(5, 6);
            net.path(4, 7);
            dueRow(net, 4, 5, 6, 7);
            net.path(5, 6);
            dueRow(net, 5, 6);
        });
    }

    private static void pathTies() {
        edge("7: the least length, though of more steps and greater points", net -> {
            chain(net, 3, 1, 2, 4);
            chain(net, 1, 1, 7, 8, 9, 4);
            due("path(1, 4)", net.path(1, 4), 5);
            dueRow(net, 1, 7, 8, 9, 4);
        });
        edge("7: of the same length the fewest steps, though of greater points", net -> {
            chain(net, 1, 1, 2, 3, 4);
            net.add(1, 9, 2);
            net.add(9, 4, 1);
            due("path(1, 4)", net.path(1, 4), 3);
            dueRow(net, 1, 9, 4);
        });
        edge("7: of the same length the fewest steps, whichever came first", net -> {
            net.add(1, 9, 2);
            net.add(9, 4, 1);
            chain(net, 1, 1, 2, 3, 4);
            due("path(1, 4)", net.path(1, 4), 3);
            dueRow(net, 1, 9, 4);
        });
        edge("7: the fewest steps, though more of them came first from the end on", net -> {
            chainFromEnd(net, 1, 1, 2, 3, 4);
            net.add(1, 9, 2);
            net.add(9, 4, 1);
            due("path(1, 4)", net.path(1, 4), 3);
            dueRow(net, 1, 9, 4);
        });
        edge("7: of the same steps the least points, the lesser first", net -> {
            chain(net, 1, 1, 5, 4);
            chain(net, 1, 1, 6, 4);
            net.path(1, 4);
            dueRow(net, 1, 5, 4);
        });
        edge("7: of the same steps the least points, the lesser last", net -> {
            chain(net, 1, 1, 6, 4);
            chain(net, 1, 1, 5, 4);
            net.path(1, 4);
            dueRow(net, 1, 5, 4);
        });
        edge("7: the points count in their order from the first on", net -> {
            chain(net, 1, 1, 6, 2, 4);
            chain(net, 1, 1, 5, 9, 4);
            net.path(1, 4);
            dueRow(net, 1, 5, 9, 4);
        });
        edge("7: where the first ones are the same the next ones count", net -> {
            chain(net, 1, 1, 5, 9, 4);
            chain(net, 1, 1, 6, 2, 4);
            chain(net, 1, 5, 8, 4);
            net.path(1, 4);
            dueRow(net, 1, 5, 8, 4);
        });
        edge("7: the least points are not those of the least c at each step", net -> {
            net.add(1, 6, 1);
            net.add(6, 4, 4);
            net.add(1, 5, 4);
            net.add(5, 4, 1);
            net.path(1, 4);
            dueRow(net, 1, 5, 4);
        });
        edge("7: a lesser point that is on no best path is not taken", net -> {
            chain(net, 2, 1, 6, 4);
            net.add(1, 0, 2);
            net.add(0, 4, 3);
            net.add(1, 2, 2);
            net.path(1, 4);
            dueRow(net, 1, 6, 4);
        });
        edge("7: of several constraints the least c counts", net -> {
            net.add(1, 5, 2);
            net.add(1, 5, 1);
            net.add(1, 5, 3);
            net.add(5, 4, 1);
            net.add(1, 4, 3);
            due("path(1, 4)", net.path(1, 4), 3);
            dueRow(net, 1, 5, 4);
            due("length()", net.length(), 2);
        });
        edge("7: ties among what is on alone", net -> {
            chain(net, 1, 1, 5, 4);
            chain(net, 1, 1, 6, 4);
            net.off(0);
            net.path(1, 4);
            dueRow(net, 1, 6, 4);
            net.on(0);
            net.off(1);
            net.path(1, 4);
            dueRow(net, 1, 6, 4);
        });
    }

    private static void row() {
        edge("8: the row is empty", net -> {
            net.add(1, 2, 3);
            due("row()", net.row(), 0);
            net.bound(1, 2);
            net.off(0);
            net.on(0);
            due("row() when no path was asked for", net.row(), 0);
        });
        edge("8: the row of a path", net -> {
            chain(net, 3, 1, 2, 3);
            net.path(1, 3);
            due("row()", net.row(), 3);
        });
        edge("8: the row of one point", net -> {
            net.path(0, 0);
            due("row()", net.row(), 1);
        });
        edge("8: the row of a path through all points", net -> {
            chain(net, 3, allPoints());
            net.path(0, 19);
            due("row()", net.row(), 20);
        });
        edge("8: the row of a witness has its first point twice", net -> {
            net.add(1, 2, 3);
            net.add(2, 1, -4);
            due("row()", net.row(), 3);
        });
        edge("8: the row of a witness of on", net -> {
            net.add(1, 2, 3);
            net.off(0);
            chain(net, -2, 2, 3, 1);
            net.on(0);
            due("row()", net.row(), 4);
        });
        edge("8: the row of the longest witness", net -> {
            chain(net, -3, allPoints());
            net.add(19, 0, 0);
            due("row()", net.row(), 21);
        });
    }

    private static void rowAt() {
        edge("9: a place below 0", net -> {
            net.path(7, 7);
            for (int k : BELOW_0) due("rowAt(" + k + ")", net.rowAt(k), NONE);
        });
        edge("9: the first place", net -> {
            chain(net, 1, 7, 8, 9);
            net.path(7, 9);
            due("rowAt(0)", net.rowAt(0), 7);
        });
        edge("9: the last place and the one behind it", net -> {
            chain(net, 1, 7, 8, 9);
            net.path(7, 9);
            due("rowAt(2)", net.rowAt(2), 9);
            due("rowAt(3)", net.rowAt(3), NONE);
        });
        edge("9: the only place and the one behind it", net -> {
            net.path(7, 7);
            due("rowAt(0)", net.rowAt(0), 7);
            due("rowAt(1)", net.rowAt(1), NONE);
        });
        edge("9: places far behind the last", net -> {
            net.path(7, 7);
            int[] places = {2, 19, 20, 21, 22, 256, 65536, 1 << 30, Integer.MAX_VALUE};
            for (int k : places) due("rowAt(" + k + ")", net.rowAt(k), NONE);
        });
        edge("9: an empty row", net -> {
            net.add(0, 1, 1);
            int[] places = {-1, 0, 1, 19, 20, 21, Integer.MIN_VALUE, Integer.MAX_VALUE};
            for (int k : places) due("rowAt(" + k + ")", net.rowAt(k), NONE);
        });
        edge("9: the last place of a path through all points", net -> {
            chain(net, 1, allPoints());
            net.path(0, 19);
            due("rowAt(19)", net.rowAt(19), 19);
            due("rowAt(20)", net.rowAt(20), NONE);
        });
        edge("9: the last place of the longest witness", net -> {
            chain(net, -1, allPoints());
            net.add(19, 0, 0);
            due("rowAt(0)", net.rowAt(0), 19);
            due("rowAt(20)", net.rowAt(20), 19);
            due("rowAt(21)", net.rowAt(21), NONE);
        });
        edge("9: behind a shorter row nothing is left of a longer one", net -> {
            chain(net, 1, 7, 8, 9);
            net.path(7, 9);
            net.path(9, 9);
            due("rowAt(0)", net.rowAt(0), 9);
            due("rowAt(1)", net.rowAt(1), NONE);
            due("rowAt(2)", net.rowAt(2), NONE);
        });
    }

    private static void length() {
        edge("10: 0 when the row is empty", net -> {
            due("length()", net.length(), 0);
            chain(net, 4, 1, 2, 3);
            net.bound(1, 3);
            net.path(3, 1);
            due("length() when there was no path", net.length(), 0);
        });
        edge("10: of a path", net -> {
            chain(net, -4, 1, 2, 3);
            net.path(1, 3);
            due("length()", net.length(), -8);
        });
        edge("10: of one point", net -> {
            net.add(1, 2, 4);
            net.path(1, 2);
            net.path(1, 1);
            due("length()", net.length(), 0);
        });
        edge("10: of a witness with the constraint that was refused", net -> {
            chain(net, 4, 1, 2, 3);
            net.add(3, 1, -10);
            due("length()", net.length(), -2);
        });
        edge("10: of a witness of on with the constraint that was refused", net -> {
            net.add(3, 1, -10);
            net.off(0);
            chain(net, 4, 1, 2, 3);
            net.on(0);
            due("length()", net.length(), -2);
        });
        edge("10: of the longest path", net -> {
            chain(net, MOST, allPoints());
            net.path(0, 19);
            due("length()", net.length(), 19 * MOST);
        });
        edge("10: of a witness the least there is", net -> {
            chain(net, -MOST, allPoints());
            net.add(19, 0, -MOST);
            due("length()", net.length(), -20 * MOST);
        });
        edge("10: of a path whose constraints are off by now", net -> {
            net.add(1, 2, 4);
            net.path(1, 2);
            net.off(0);
            due("length()", net.length(), 4);
        });
        edge("10: of a path to which there is a better one by now", net -> {
            net.add(1, 2, 4);
            net.path(1, 2);
            net.add(1, 2, 3);
            due("length()", net.length(), 4);
        });
        edge("10: of a path behind a witness", net -> {
            net.add(1, 2, 4);
            net.add(2, 1, -9);
            net.path(1, 2);
            due("length()", net.length(), 4);
        });
    }

    private static void earliest() {
        edge("11: none such, as nothing is on", net -> {
            for (int p = 1; p < 20; p++) {
                due("earliest(" + p + ")", net.earliest(p), -9223372036854775808L);
            }
        });
        edge("11: none such, as only its latest time is bound", net -> {
            net.add(0, 5, 3);
            due("earliest(5)", net.earliest(5), -9223372036854775808L);
        });
        edge("11: none such, as one on the way is off", net -> {
            chain(net, -3, 5, 6, 0);
            due("earliest(5)", net.earliest(5), 6);
            net.off(1);
            due("earliest(5) with one off", net.earliest(5), -9223372036854775808L);
        });
        edge("11: a point below 0", net -> {
            for (int p : BELOW_0) dueNoSuchElement("earliest(" + p + ")", () -> net.earliest(p));
        });
        edge("11: a point above 19", net -> {
            for (int p : ABOVE_19) dueNoSuchElement("earliest(" + p + ")", () -> net.earliest(p));
        });
        edge("11: point 19", net -> {
            net.add(19, 0, -3);
            due("earliest(19)", net.earliest(19), 3);
        });
        edge("11: what throws changes nothing", net -> {
            net.add(5, 0, -3);
            net.path(5, 0);
            dueNoSuchElement("earliest(20)", () -> net.earliest(20));
            dueRow(net, 5, 0);
            due("length()", net.length(), -3);
            due("earliest(5)", net.earliest(5), 3);
        });
        edge("11: point 0 itself, of a new object", net -> {
            due("earliest(0)", net.earliest(0), 0);
        });
        edge("11: point 0 itself, round it ways above 0 and of 0", net -> {
            chain(net, 3, 0, 1, 0);
            due("earliest(0)", net.earliest(0), 0);
            net.add(0, 2, -3);
            net.add(2, 0, 3);
            due("earliest(0) with a way of 0", net.earliest(0), 0);
        });
        edge("11: a time below 0", net -> {
            net.add(5, 0, 3);
            due("earliest(5)", net.earliest(5), -3);
        });
        edge("11: the latest of all that is on", net -> {
            net.add(5, 0, -3);
            net.add(5, 0, -2);
            chain(net, -2, 5, 6, 0);
            due("earliest(5)", net.earliest(5), 4);
            net.off(2);
            due("earliest(5) with one off", net.earliest(5), 3);
        });
        edge("11: it may be at its earliest time, and no earlier", net -> {
            net.add(5, 0, -3);
            chain(net, -2, 5, 6, 0);
            long earliest = net.earliest(5);
            due("add(0, 5, earliest - 1)", net.add(0, 5, earliest - 1), REFUSED);
            due("add(0, 5, earliest)", net.add(0, 5, earliest), 3);
        });
        edge("11: all points at their earliest times keep to all that is on", net -> {
            int[][] on = {{1, 0, -3}, {2, 1, -4}, {2, 0, -5}, {0, 2, 9}, {3, 2, 6}, {1, 3, 2}, {3, 0, 0}};
            for (int k = 0; k < on.length; k++) {
                due("add of number " + k, net.add(on[k][0], on[k][1], on[k][2]), k);
            }
            for (int[] c : on) {
                long apart = net.earliest(c[1]) - net.earliest(c[0]);
                due(c[0] + " and " + c[1] + " no farther than " + c[2], apart <= c[2], true);
            }
        });
        edge("11: the row stays", net -> {
            net.add(5, 0, -3);
            net.add(6, 7, 4);
            net.path(6, 7);
            net.earliest(5);
            net.earliest(8);
            dueRow(net, 6, 7);
            due("length()", net.length(), 4);
        });
        edge("11: the greatest time", net -> {
            for (int p = 0; p < 19; p++) net.add(p + 1, p, -MOST);
            due("earliest(19)", net.earliest(19), 19 * MOST);
        });
        edge("11: the least time", net -> {
            for (int p = 0; p < 19; p++) net.add(p + 1, p, MOST);
            due("earliest(19)", net.earliest(19), -19 * MOST);
        });
    }

    private static void slack() {
        edge("12: it is off", net -> {
            net.add(1, 2, 9);
            net.add(1, 2, 4);
            net.off(0);
            due("slack(0)", net.slack(0), NONE);
            net.on(0);
            due("slack(0) on again", net.slack(0), 5);
        });
        edge("12: it is off still when on was refused", net -> {
            net.add(1, 2, 9);
            net.off(0);
            net.add(2, 1, -10);
            net.on(0);
            due("slack(0)", net.slack(0), NONE);
        });
        edge("12: there is none of a number below 0", net -> {
            net.add(1, 2, 9);
            for (int k : BELOW_0) due("slack(" + k + ")", net.slack(k), NONE);
        });
        edge("12: the last number and the one behind it", net -> {
            net.add(1, 2, 9);
            net.add(2, 3, 9);
            due("slack(1)", net.slack(1), 0);
            due("slack(2)", net.slack(2), NONE);
        });
        edge("12: numbers 0 and 119 and those behind, when 120 are there", net -> {
            fill(net);
            due("slack(0)", net.slack(0), 0);
            due("slack(119)", net.slack(119), 119);
            for (int k : ABOVE_119) due("slack(" + k + ")", net.slack(k), NONE);
        });
        edge("12: itself alone bounds as much", net -> {
            net.add(1, 2, -9);
            due("slack(0)", net.slack(0), 0);
        });
        edge("12: the others bound less than itself", net -> {
            net.add(1, 2, 4);
            net.add(1, 2, 9);
            due("slack(0)", net.slack(0), 0);
        });
        edge("12: the others bound more", net -> {
            net.add(1, 3, 9);
            chain(net, 4, 1, 2, 3);
            due("slack(0)", net.slack(0), 1);
            net.off(1);
            due("slack(0) with one of them off", net.slack(0), 0);
        });
        edge("12: the greatest slack", net -> {
            chain(net, -MOST, allPoints());
            due("add(0, 19, 10^12)", net.add(0, 19, MOST), 19);
            due("slack(19)", net.slack(19), 20 * MOST);
        });
        edge("12: the row stays", net -> {
            chain(net, 4, 1, 2, 3);
            net.path(1, 3);
            net.slack(0);
            net.slack(9);
            dueRow(net, 1, 2, 3);
            due("length()", net.length(), 8);
        });
    }

    private static void alive() {
        edge("13: behind a refused add", net -> {
            net.add(1, 2, 3);
            net.add(2, 1, -4);
            due("alive()", net.alive(), 1);
        });
        edge("13: behind an add that wasn't as said", net -> {
            net.add(1, 2, 3);
            net.add(1, 1, 3);
            net.add(1, 20, 3);
            net.add(1, 2, MOST + 1);
            due("alive()", net.alive(), 1);
        });
        edge("13: behind off", net -> {
            net.add(1, 2, 3);
            net.add(2, 3, 3);
            net.off(0);
            due("alive()", net.alive(), 1);
            net.off(1);
            due("alive() with both off", net.alive(), 0);
        });
        edge("13: behind off of what was off or isn't there", net -> {
            net.add(1, 2, 3);
            net.add(2, 3, 3);
            net.off(0);
            net.off(0);
            net.off(2);
            net.off(-1);
            due("alive()", net.alive(), 1);
        });
        edge("13: behind on", net -> {
            net.add(1, 2, 3);
            net.add(2, 3, 3);
            net.off(0);
            net.on(0);
            due("alive()", net.alive(), 2);
        });
        edge("13: behind on of what is on or isn't there", net -> {
            net.add(1, 2, 3);
            net.on(0);
            net.on(1);
            net.on(-1);
            due("alive()", net.alive(), 1);
        });
        edge("13: behind a refused on", net -> {
            net.add(1, 2, 3);
            net.off(0);
            net.add(2, 1, -4);
            net.on(0);
            due("alive()", net.alive(), 1);
        });
        edge("13: one that came when others are off", net -> {
            net.add(1, 2, 3);
            net.off(0);
            net.add(1, 2, 3);
            due("alive()", net.alive(), 1);
        });
        edge("13: 120 and no more", net -> {
            fill(net);
            net.add(2, 3, 1);
            due("alive()", net.alive(), 120);
        });
    }

    private static void calls() {
        edge("What it is: the 512th call is answered as the first ones", net -> {
            fill(net);
            for (int n = 0; n < 195; n++) {
                due("off(119)", net.off(119), true);
                due("on(119)", net.on(119), 119);
            }
            due("alive() as the 511th call", net.alive(), 120);
            due("bound(0, 1) as the 512th call", net.bound(0, 1), 0);
        });
    }
}
