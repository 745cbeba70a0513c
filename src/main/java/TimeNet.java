import java.util.NoSuchElementException;

/**
 * Points in time and bounds on how far they may be from one another; what can't be together is
 * refused, with the cycle that says why.
 */
public final class TimeNet {
    public static final int NONE = -1, REFUSED = -2;

    private static final int POINTS = 20;
    private static final int CONSTRAINTS = 120;
    private static final long GREATEST_C = 1000000000000L;
    private static final long NO_BOUND = 9223372036854775807L;
    private static final long NO_EARLIEST = -9223372036854775808L;

    private final int[] firstPoint;
    private final int[] secondPoint;
    private final long[] most;
    private final boolean[] isOn;
    private int count;
    private int onCount;

    // Of the best path from each point to the one last measured to; made once, so that no call
    // makes an object.
    private final long[] lengthFrom;
    private final int[] stepsFrom;

    private final int[] rowPoints;
    private int rowSize;
    // Kept, not summed again when asked: a refused constraint is held nowhere else, and what was
    // on when the row was written may be off by then.
    private long rowLength;

    public TimeNet() {
        firstPoint = new int[CONSTRAINTS];
        secondPoint = new int[CONSTRAINTS];
        most = new long[CONSTRAINTS];
        isOn = new boolean[CONSTRAINTS];
        lengthFrom = new long[POINTS];
        stepsFrom = new int[POINTS];
        // A witness may go through all points and has its first one twice.
        rowPoints = new int[POINTS + 1];
    }

    public int add(int i, int j, long c) {
        if (count >= CONSTRAINTS || !isConstraint(i, j, c)) {
            return NONE;
        }
        if (refuse(i, j, c)) {
            return REFUSED;
        }
        int k = count;
        firstPoint[k] = i;
        secondPoint[k] = j;
        most[k] = c;
        isOn[k] = true;
        count++;
        onCount++;
        return k;
    }

    public boolean off(int k) {
        if (!isNumber(k) || !isOn[k]) {
            return false;
        }
        isOn[k] = false;
        onCount--;
        return true;
    }

    public int on(int k) {
        if (!isNumber(k) || isOn[k]) {
            return NONE;
        }
        if (refuse(firstPoint[k], secondPoint[k], most[k])) {
            return REFUSED;
        }
        isOn[k] = true;
        onCount++;
        return k;
    }

    public long bound(int i, int j) throws NoSuchElementException {
        if (!isPoint(i) || !isPoint(j)) {
            throw new NoSuchElementException();
        }
        measureTo(j);
        return lengthFrom[i];
    }

    public int steps(int i, int j) {
        return findPath(i, j) ? stepsFrom[i] : NONE;
    }

    public int path(int i, int j) {
        if (!findPath(i, j)) {
            return NONE;
        }
        rowSize = 0;
        appendBestFrom(i);
        rowLength = lengthFrom[i];
        return rowSize;
    }

    public int row() {
        return rowSize;
    }

    public int rowAt(int k) {
        return k >= 0 && k < rowSize ? rowPoints[k] : NONE;
    }

    public long length() {
        return rowLength;
    }

    public long earliest(int i) throws NoSuchElementException {
        if (!isPoint(i)) {
            throw new NoSuchElementException();
        }
        measureTo(0);
        return lengthFrom[i] == NO_BOUND ? NO_EARLIEST : -lengthFrom[i];
    }

    public long slack(int k) {
        if (!isNumber(k) || !isOn[k]) {
            return NONE;
        }
        measureTo(secondPoint[k]);
        return most[k] - lengthFrom[firstPoint[k]];
    }

    public int alive() {
        return onCount;
    }

    private static boolean isPoint(int i) {
        return i >= 0 && i < POINTS;
    }

    private static boolean isConstraint(int i, int j, long c) {
        return isPoint(i) && isPoint(j) && i != j && c >= -GREATEST_C && c <= GREATEST_C;
    }

    private boolean isNumber(int k) {
        return k >= 0 && k < count;
    }

    /** Whether the constraint can't be on with those that are; if so the row becomes its witness. */
    private boolean refuse(int i, int j, long c) {
        if (!findPath(j, i) || lengthFrom[j] + c >= 0) {
            return false;
        }
        rowSize = 0;
        append(i);
        appendBestFrom(j);
        rowLength = lengthFrom[j] + c;
        return true;
    }

    /** Whether there is a path from i to j; if so, the best paths to j have been measured. */
    private boolean findPath(int i, int j) {
        if (!isPoint(i) || !isPoint(j)) {
            return false;
        }
        measureTo(j);
        return lengthFrom[i] != NO_BOUND;
    }

    private void measureTo(int target) {
        for (int p = 0; p < POINTS; p++) {
            lengthFrom[p] = NO_BOUND;
            stepsFrom[p] = NONE;
        }
        lengthFrom[target] = 0;
        stepsFrom[target] = 0;
        // No cycle is below 0, so a best path meets no point twice and has fewer steps than there
        // are points; each round settles those of one step more.
        boolean changed = true;
        for (int round = 1; round < POINTS && changed; round++) {
            changed = improveAll();
        }
    }

    private boolean improveAll() {
        boolean changed = false;
        for (int k = 0; k < count; k++) {
            if (isOn[k] && improveBy(k)) {
                changed = true;
            }
        }
        return changed;
    }

    private boolean improveBy(int k) {
        int p = firstPoint[k];
        int q = secondPoint[k];
        if (lengthFrom[q] == NO_BOUND) {
            return false;
        }
        long newLength = most[k] + lengthFrom[q];
        int newSteps = stepsFrom[q] + 1;
        boolean better = newLength < lengthFrom[p]
                || newLength == lengthFrom[p] && newSteps < stepsFrom[p];
        if (better) {
            lengthFrom[p] = newLength;
            stepsFrom[p] = newSteps;
        }
        return better;
    }

    private void appendBestFrom(int start) {
        int p = start;
        append(p);
        for (int left = stepsFrom[start]; left > 0; left--) {
            p = nextOfBest(p);
            append(p);
        }
    }

    private void append(int p) {
        if (rowSize < rowPoints.length) {
            rowPoints[rowSize] = p;
            rowSize++;
        }
    }

    // All best paths from a point have as many steps, so taking the least next point each time
    // gives the least points in their order.
    private int nextOfBest(int p) {
        int next = POINTS;
        for (int k = 0; k < count; k++) {
            if (firstPoint[k] == p && secondPoint[k] < next && isOn[k] && beginsBest(k)) {
                next = secondPoint[k];
            }
        }
        return next;
    }

    private boolean beginsBest(int k) {
        int p = firstPoint[k];
        int q = secondPoint[k];
        return lengthFrom[q] != NO_BOUND
                && most[k] + lengthFrom[q] == lengthFrom[p]
                && stepsFrom[q] + 1 == stepsFrom[p];
    }
}
