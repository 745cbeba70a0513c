import java.util.NoSuchElementException;

/** Each promise of the document: ordinary inputs, the edges it names, and wrong inputs. */
public final class TimeNetPromisesTest {
    private static final long MOST = 1_000_000_000_000L;
    private static final int[] NO_POINTS = {-1, 20, 21, Integer.MIN_VALUE, Integer.MAX_VALUE};

    private static int wrong = 0;

    public static void main(String[] args) {
        newObject();
        addNumbers();
        addWrongInputs();
        addRefuses();
        addAtMost120();
        off();
        on();
        bound();
        steps();
        path();
        pathTies();
        pathByWhatIsOn();
        row();
        rowAt();
        length();
        earliest();
        slack();
        alive();
        longestPaths();
        objectsAreApart();
        System.out.println(wrong == 0 ? "all answers are as due" : wrong + " answers are not as due");
        if (wrong != 0) System.exit(1);
    }

    private static void due(String call, long got, long want) {
        if (got != want) {
            wrong++;
            System.out.println(call + " answered " + got + ", due is " + want);
        }
    }

    private static void due(String call, boolean got, boolean want) {
        due(call, got ? 1 : 0, want ? 1 : 0);
    }

    private static void dueRow(String when, TimeNet net, long length, int... points) {
        due(when + ": row()", net.row(), points.length);
        for (int k = 0; k < points.length; k++) {
            due(when + ": rowAt(" + k + ")", net.rowAt(k), points[k]);
        }
        due(when + ": rowAt behind the end", net.rowAt(points.length), TimeNet.NONE);
        due(when + ": length()", net.length(), length);
    }

    private static boolean boundThrows(TimeNet net, int i, int j) {
        try {
            net.bound(i, j);
            return false;
        } catch (NoSuchElementException e) {
            return true;
        }
    }

    private static boolean earliestThrows(TimeNet net, int i) {
        try {
            net.earliest(i);
            return false;
        } catch (NoSuchElementException e) {
            return true;
        }
    }

    // Promise 1

    private static void newObject() {
        TimeNet net = new TimeNet();
        due("new: NONE", TimeNet.NONE, -1);
        due("new: REFUSED", TimeNet.REFUSED, -2);
        dueRow("new", net, 0);
        due("new: alive()", net.alive(), 0);
        due("new: off(0)", net.off(0), false);
        due("new: on(0)", net.on(0), TimeNet.NONE);
        due("new: slack(0)", net.slack(0), TimeNet.NONE);
        for (int i = 0; i < 20; i++) newObjectFrom(i);
    }

    // On an object of its own for each point, as one is good for 512 calls.
    private static void newObjectFrom(int i) {
        TimeNet net = new TimeNet();
        for (int j = 0; j < 20; j++) {
            due("new: bound(" + i + ", " + j + ")", net.bound(i, j), i == j ? 0 : Long.MAX_VALUE);
            due("new: steps(" + i + ", " + j + ")", net.steps(i, j), i == j ? 0 : TimeNet.NONE);
        }
        due("new: earliest(" + i + ")", net.earliest(i), i == 0 ? 0 : Long.MIN_VALUE);
    }

    // Promise 2

    private static void addNumbers() {
        TimeNet net = new TimeNet();
        due("add: the first", net.add(0, 19, MOST), 0);
        due("add: the second", net.add(19, 0, -MOST), 1);
        due("add: the same again", net.add(0, 19, MOST), 2);
        due("add: a wrong one", net.add(4, 4, 1), TimeNet.NONE);
        due("add: a refused one", net.add(0, 19, MOST - 1), TimeNet.REFUSED);
        due("add: neither took a number", net.add(5, 6, 0), 3);
        due("add: is on", net.bound(5, 6), 0);
        due("add: a cycle of length 0 is let in", net.add(6, 5, 0), 4);
    }

    private static void addWrongInputs() {
        TimeNet net = new TimeNet();
        net.add(2, 3, 4);
        net.path(2, 3);
        for (int p : NO_POINTS) {
            due("add(" + p + ", 1, 0)", net.add(p, 1, 0), TimeNet.NONE);
            due("add(1, " + p + ", 0)", net.add(1, p, 0), TimeNet.NONE);
            due("add(" + p + ", " + p + ", 0)", net.add(p, p, 0), TimeNet.NONE);
        }
        for (int p = 0; p < 20; p++) {
            due("add of one point", net.add(p, p, 7), TimeNet.NONE);
            due("add of one point, below 0", net.add(p, p, -7), TimeNet.NONE);
        }
        long[] cs = {MOST + 1, -MOST - 1, Long.MAX_VALUE, Long.MIN_VALUE};
        for (long c : cs) {
            due("add(1, 2, " + c + ")", net.add(1, 2, c), TimeNet.NONE);
            due("add(3, 2, " + c + ")", net.add(3, 2, c), TimeNet.NONE);
        }
        due("add: nothing came", net.alive(), 1);
        dueRow("add: the row stays", net, 4, 2, 3);
    }

    private static void addRefuses() {
        TimeNet net = new TimeNet();
        net.add(0, 1, 2);
        net.add(1, 2, 3);
        net.add(2, 3, -1);
        due("refused: just not", net.add(3, 0, -4), 3);
        due("refused: just", net.add(3, 0, -5), TimeNet.REFUSED);
        dueRow("refused", net, -1, 3, 0, 1, 2, 3);
        due("refused: nothing came", net.alive(), 4);
        due("refused: nothing changed", net.bound(3, 0), -4);
        due("refused: far below", net.add(1, 0, -MOST), TimeNet.REFUSED);
        dueRow("refused: far below", net, 2 - MOST, 1, 0, 1);
        due("refused: the next number", net.add(7, 8, 1), 4);
        dueRow("refused: the row stays when one comes", net, 2 - MOST, 1, 0, 1);
        // Two ways back of length 3: by 11 and 10 and by 12 alone, which has fewer steps.
        net.add(9, 11, 1);
        net.add(11, 10, 1);
        net.add(10, 13, 1);
        net.add(9, 12, 1);
        net.add(12, 13, 2);
        due("refused: two ways", net.add(13, 9, -10), TimeNet.REFUSED);
        dueRow("refused: two ways", net, -7, 13, 9, 12, 13);
    }

    private static void addAtMost120() {
        TimeNet net = new TimeNet();
        for (int n = 0; n < 120; n++) {
            due("add: number " + n, net.add(n % 19, n % 19 + 1, n), n);
        }
        net.path(0, 1);
        due("add: 120 are there", net.add(0, 1, 5), TimeNet.NONE);
        due("add: 120 are there, one that can't be", net.add(1, 0, -MOST), TimeNet.NONE);
        dueRow("add: 120 are there", net, 0, 0, 1);
        due("off(119)", net.off(119), true);
        due("add: 120 are there, one off", net.add(0, 1, 5), TimeNet.NONE);
        due("on(119)", net.on(119), 119);
        due("on(120)", net.on(120), TimeNet.NONE);
        due("off(120)", net.off(120), false);
        due("slack(119)", net.slack(119), 119 - 119 % 19);
        due("slack(120)", net.slack(120), TimeNet.NONE);
        due("alive()", net.alive(), 120);
    }

    // Promise 3

    private static void off() {
        TimeNet net = new TimeNet();
        net.add(1, 2, 5);
        net.add(1, 2, 9);
        net.path(1, 2);
        due("off(0)", net.off(0), true);
        due("off: the other bounds now", net.bound(1, 2), 9);
        due("off(0) again", net.off(0), false);
        dueRow("off: the row stays", net, 5, 1, 2);
        due("off(1)", net.off(1), true);
        due("off: none bounds now", net.bound(1, 2), Long.MAX_VALUE);
        due("off: what was in the way", net.add(2, 1, -6), 2);
        due("off(2)", net.off(2), true);
        due("off(3)", net.off(3), false);
        due("off(-1)", net.off(-1), false);
        due("off(MIN)", net.off(Integer.MIN_VALUE), false);
        due("off(MAX)", net.off(Integer.MAX_VALUE), false);
        due("off: alive()", net.alive(), 0);
    }

    // Promise 4

    private static void on() {
        TimeNet net = new TimeNet();
        net.add(4, 5, 3);
        net.add(5, 4, 0);
        due("on(0) when on", net.on(0), TimeNet.NONE);
        net.off(0);
        due("on(0)", net.on(0), 0);
        due("on: bounds again", net.bound(4, 5), 3);
        net.off(0);
        net.add(5, 6, -2);
        net.add(6, 4, -2);
        net.path(5, 4);
        due("on(0) refused", net.on(0), TimeNet.REFUSED);
        dueRow("on(0) refused", net, -1, 4, 5, 6, 4);
        due("on: still off", net.off(0), false);
        due("on: still no path", net.bound(4, 5), Long.MAX_VALUE);
        due("on: alive()", net.alive(), 3);
        net.off(3);
        due("on(0) no more in the way", net.on(0), 0);
        dueRow("on(0): the row stays", net, -1, 4, 5, 6, 4);
        due("on(3) refused now", net.on(3), TimeNet.REFUSED);
        dueRow("on(3) refused", net, -1, 6, 4, 5, 6);
        due("on(4)", net.on(4), TimeNet.NONE);
        due("on(-1)", net.on(-1), TimeNet.NONE);
        due("on(MIN)", net.on(Integer.MIN_VALUE), TimeNet.NONE);
        due("on(MAX)", net.on(Integer.MAX_VALUE), TimeNet.NONE);
        dueRow("on: the row stays at NONE", net, -1, 6, 4, 5, 6);
    }

    // Promise 5

    private static void bound() {
        TimeNet net = new TimeNet();
        net.add(0, 1, 10);
        net.add(1, 2, -4);
        net.add(0, 2, 7);
        due("bound(0, 2)", net.bound(0, 2), 6);
        due("bound(1, 2)", net.bound(1, 2), -4);
        due("bound(2, 0)", net.bound(2, 0), Long.MAX_VALUE);
        due("bound(2, 2)", net.bound(2, 2), 0);
        net.add(2, 1, 4);
        due("bound(1, 1) on a cycle of 0", net.bound(1, 1), 0);
        net.add(0, 2, 5);
        due("bound: the least c counts", net.bound(0, 2), 5);
        net.path(0, 2);
        for (int p : NO_POINTS) {
            due("bound(" + p + ", 0) throws", boundThrows(net, p, 0), true);
            due("bound(0, " + p + ") throws", boundThrows(net, 0, p), true);
            due("bound(" + p + ", " + p + ") throws", boundThrows(net, p, p), true);
        }
        due("bound(0, 19) throws", boundThrows(net, 0, 19), false);
        net.bound(1, 2);
        dueRow("bound: the row stays", net, 5, 0, 2);
    }

    // Promise 6

    private static void steps() {
        TimeNet net = new TimeNet();
        net.add(3, 4, 1);
        net.add(4, 5, 1);
        net.add(3, 5, 3);
        due("steps: the shorter of more steps", net.steps(3, 5), 2);
        net.add(3, 5, 2);
        due("steps: as long with fewer", net.steps(3, 5), 1);
        due("steps(3, 3)", net.steps(3, 3), 0);
        net.add(5, 3, -2);
        due("steps(3, 3) on a cycle of 0", net.steps(3, 3), 0);
        due("steps(4, 3)", net.steps(4, 3), 2);
        due("steps(3, 6)", net.steps(3, 6), TimeNet.NONE);
        // As long with fewer steps, where the way of more steps is met first.
        net.add(10, 11, 1);
        net.add(12, 13, 1);
        net.add(11, 12, 1);
        net.add(10, 11, 1);
        net.add(11, 13, 2);
        due("steps: as long with fewer, found later", net.steps(10, 13), 2);
        net.path(3, 5);
        for (int p : NO_POINTS) {
            due("steps(" + p + ", 3)", net.steps(p, 3), TimeNet.NONE);
            due("steps(3, " + p + ")", net.steps(3, p), TimeNet.NONE);
            due("steps(" + p + ", " + p + ")", net.steps(p, p), TimeNet.NONE);
        }
        net.steps(4, 3);
        dueRow("steps: the row stays", net, 2, 3, 5);
    }

    // Promise 7

    private static void path() {
        TimeNet net = new TimeNet();
        net.add(6, 2, -3);
        net.add(2, 9, 8);
        due("path(6, 9)", net.path(6, 9), 3);
        dueRow("path(6, 9)", net, 5, 6, 2, 9);
        due("path(9, 6)", net.path(9, 6), TimeNet.NONE);
        for (int p : NO_POINTS) {
            due("path(" + p + ", 6)", net.path(p, 6), TimeNet.NONE);
            due("path(6, " + p + ")", net.path(6, p), TimeNet.NONE);
            due("path(" + p + ", " + p + ")", net.path(p, p), TimeNet.NONE);
        }
        dueRow("path: NONE changes nothing", net, 5, 6, 2, 9);
        due("path(19, 19)", net.path(19, 19), 1);
        dueRow("path(19, 19)", net, 0, 19);
    }

    private static void pathTies() {
        TimeNet net = new TimeNet();
        // From 0 to 9 in three steps of length 6: by 5 7, 3 8, 3 4 and 2 6, and by 1 only longer.
        net.add(0, 5, 2);
        net.add(5, 7, 2);
        net.add(7, 9, 2);
        net.add(0, 3, 1);
        net.add(3, 8, 1);
        net.add(8, 9, 4);
        due("path: two of three steps", net.path(0, 9), 4);
        dueRow("path: two of three steps", net, 6, 0, 3, 8, 9);
        net.add(3, 4, 3);
        net.add(4, 9, 2);
        net.path(0, 9);
        dueRow("path: the second points differ", net, 6, 0, 3, 4, 9);
        net.add(0, 1, 0);
        net.add(1, 9, 7);
        net.path(0, 9);
        dueRow("path: a longer one of fewer steps", net, 6, 0, 3, 4, 9);
        net.add(0, 2, 6);
        net.add(2, 6, 0);
        net.add(6, 9, 0);
        net.path(0, 9);
        dueRow("path: the least first", net, 6, 0, 2, 6, 9);
        net.add(0, 19, 3);
        net.add(19, 9, 3);
        net.path(0, 9);
        dueRow("path: fewer steps go ahead of lesser points", net, 6, 0, 19, 9);
        net.add(19, 9, 5);
        net.path(0, 9);
        dueRow("path: a greater c doesn't count", net, 6, 0, 19, 9);
        net.add(0, 1, -1);
        net.path(0, 9);
        dueRow("path: the least c counts", net, 6, 0, 1, 9);
    }

    private static void pathByWhatIsOn() {
        TimeNet net = new TimeNet();
        net.add(5, 1, 1);
        net.add(1, 9, 1);
        net.add(5, 2, 1);
        net.add(2, 9, 1);
        net.path(5, 9);
        dueRow("path: by 1", net, 2, 5, 1, 9);
        net.off(0);
        net.path(5, 9);
        dueRow("path: by 2 when the one to 1 is off", net, 2, 5, 2, 9);
        net.on(0);
        net.path(5, 9);
        dueRow("path: by 1 again", net, 2, 5, 1, 9);
    }

    // Promise 8

    private static void row() {
        TimeNet net = new TimeNet();
        net.add(0, 1, 1);
        net.add(1, 2, 1);
        due("row() at first", net.row(), 0);
        net.path(0, 2);
        due("row() of a path", net.row(), 3);
        net.path(1, 1);
        due("row() of a point", net.row(), 1);
        net.add(2, 0, -3);
        due("row() of a witness", net.row(), 4);
        net.path(2, 0);
        due("row() when there was no path", net.row(), 4);
    }

    // Promise 9

    private static void rowAt() {
        TimeNet net = new TimeNet();
        due("rowAt(0) at first", net.rowAt(0), TimeNet.NONE);
        net.add(0, 1, 1);
        net.add(1, 2, 1);
        net.path(0, 2);
        int[] want = {0, 1, 2};
        for (int k = 0; k < 3; k++) due("rowAt(" + k + ")", net.rowAt(k), want[k]);
        int[] none = {-1, 3, 4, 19, 20, 21, 22, Integer.MIN_VALUE, Integer.MAX_VALUE};
        for (int k : none) due("rowAt(" + k + ")", net.rowAt(k), TimeNet.NONE);
        net.path(2, 2);
        due("rowAt(0) of a shorter row", net.rowAt(0), 2);
        due("rowAt(1) of a shorter row", net.rowAt(1), TimeNet.NONE);
    }

    // Promise 10

    private static void length() {
        TimeNet net = new TimeNet();
        due("length() at first", net.length(), 0);
        net.add(0, 1, 5);
        net.add(1, 2, -9);
        due("length() while the row is empty", net.length(), 0);
        net.path(0, 2);
        due("length() of a path", net.length(), -4);
        net.add(2, 1, 8);
        due("length() of a witness", net.length(), -1);
        net.off(1);
        due("length() of a witness stays", net.length(), -1);
        net.path(0, 1);
        net.add(0, 1, 2);
        due("length() of a path stays", net.length(), 5);
        net.path(0, 0);
        due("length() of a point", net.length(), 0);
    }

    // Promise 11

    private static void earliest() {
        TimeNet net = new TimeNet();
        net.add(1, 0, -7);
        net.add(2, 1, -5);
        net.add(2, 0, -8);
        net.add(3, 0, 4);
        net.add(0, 4, 6);
        due("earliest(0)", net.earliest(0), 0);
        due("earliest(1)", net.earliest(1), 7);
        due("earliest(2)", net.earliest(2), 12);
        due("earliest(3)", net.earliest(3), -4);
        due("earliest(4)", net.earliest(4), Long.MIN_VALUE);
        net.off(0);
        due("earliest(2) by what is on", net.earliest(2), 8);
        due("earliest(1) by what is on", net.earliest(1), Long.MIN_VALUE);
        net.path(2, 0);
        for (int p : NO_POINTS) due("earliest(" + p + ") throws", earliestThrows(net, p), true);
        due("earliest(19) throws", earliestThrows(net, 19), false);
        dueRow("earliest: the row stays", net, -8, 2, 0);
    }

    // Promise 12

    private static void slack() {
        TimeNet net = new TimeNet();
        net.add(0, 1, 4);
        net.add(1, 2, 4);
        net.add(0, 2, 20);
        net.add(0, 1, 9);
        due("slack(0)", net.slack(0), 0);
        due("slack(2)", net.slack(2), 12);
        due("slack(3)", net.slack(3), 5);
        net.off(0);
        due("slack(0) off", net.slack(0), TimeNet.NONE);
        due("slack(3) alone", net.slack(3), 0);
        due("slack(2) by what is on", net.slack(2), 7);
        net.path(0, 2);
        int[] none = {4, 5, 120, -1, Integer.MIN_VALUE, Integer.MAX_VALUE};
        for (int k : none) due("slack(" + k + ")", net.slack(k), TimeNet.NONE);
        net.slack(1);
        dueRow("slack: the row stays", net, 13, 0, 1, 2);
        net.add(5, 6, -MOST);
        due("slack: as great as one can be", net.add(5, 6, MOST), 5);
        due("slack(5)", net.slack(5), 2 * MOST);
    }

    // Promise 13

    private static void alive() {
        TimeNet net = new TimeNet();
        net.add(0, 1, 1);
        net.add(1, 0, -1);
        due("alive() of two", net.alive(), 2);
        net.add(1, 0, -2);
        due("alive() after a refused one", net.alive(), 2);
        net.add(1, 1, 0);
        due("alive() after a wrong one", net.alive(), 2);
        net.off(0);
        net.off(0);
        due("alive() with one off", net.alive(), 1);
        net.add(1, 0, -2);
        net.on(0);
        due("alive() when on is refused", net.alive(), 2);
        net.off(2);
        net.on(0);
        net.on(0);
        due("alive() with one on again", net.alive(), 2);
    }

    private static void longestPaths() {
        TimeNet up = new TimeNet();
        TimeNet down = new TimeNet();
        for (int p = 0; p < 19; p++) up.add(p, p + 1, MOST);
        for (int p = 18; p >= 0; p--) down.add(p, p + 1, -MOST);
        int[] witness = new int[21];
        witness[0] = 19;
        for (int p = 0; p < 20; p++) witness[p + 1] = p;
        due("longest: up bound", up.bound(0, 19), 19 * MOST);
        due("longest: down bound", down.bound(0, 19), -19 * MOST);
        due("longest: up steps", up.steps(0, 19), 19);
        due("longest: down steps", down.steps(0, 19), 19);
        due("longest: up path", up.path(0, 19), 20);
        due("longest: down path", down.path(0, 19), 20);
        due("longest: up closes", up.add(19, 0, -MOST), 19);
        due("longest: down doesn't", down.add(19, 0, MOST), TimeNet.REFUSED);
        dueRow("longest: witness", down, -18 * MOST, witness);
        due("longest: earliest", up.earliest(1), -17 * MOST);
    }

    private static void objectsAreApart() {
        TimeNet one = new TimeNet();
        TimeNet other = new TimeNet();
        one.add(0, 1, 3);
        one.path(0, 1);
        due("apart: alive()", other.alive(), 0);
        due("apart: bound(0, 1)", other.bound(0, 1), Long.MAX_VALUE);
        dueRow("apart", other, 0);
        due("apart: the first number", other.add(1, 0, -4), 0);
        dueRow("apart: the row stays", one, 3, 0, 1);
    }
}
