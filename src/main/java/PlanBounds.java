import java.util.Arrays;

/**
 * Bounds of plans: rows over weeks that amounts must keep, the least cost of all amounts that keep
 * them, with what proves it. The document is DOC.md; its promises are named here by their numbers.
 */
public final class PlanBounds {
    public static final int NONE = -1;

    private static final int MOST_WEEKS = 60;
    private static final int MOST_COLUMNS = 12;
    private static final int MOST_ROWS = 12;
    private static final int MOST_LINES = 24;
    private static final int MOST_STEPS = 1000;
    private static final long MOST_COST = 1000;
    private static final long MOST_RIGHT = 1000000;
    private static final int MOST_FACTOR = 1000;
    private static final long MOST_NUMBER = 1000000000;

    private static final int AT_LEAST = 0;
    private static final int AT_MOST = 1;
    private static final int JUST = 2;

    private static final int KEPT = 0;
    private static final int CONTRADICTION = 1;
    private static final int SPENT = 2;
    private static final int TOO_GREAT = 3;

    private static final int UPPER = 0;
    private static final int LOWER = 1;

    private final int weeks;
    private final int[] kinds = new int[MOST_ROWS];
    private final int[] weeksOfRows = new int[MOST_ROWS];
    private final long[] rights = new long[MOST_ROWS];
    private final int[] factors = new int[MOST_ROWS * MOST_COLUMNS];
    private final int[] firstLines = new int[MOST_ROWS];
    private final Table table = new Table();
    private int rows = 0;
    /** Rows come by their numbers and none goes, so those in the table are the first so many. */
    private int rowsInTable = 0;
    private int stepsDone = 0;
    private boolean hasRun = false;
    /** What the latest run() answered; NONE if there was none, or a right side changed since. */
    private int latest = NONE;

    /** Promise 1. */
    public PlanBounds(int weeks) {
        this.weeks = Math.max(1, Math.min(MOST_WEEKS, weeks));
    }

    /** Promise 2. */
    public int column(long cost) throws IllegalStateException, IllegalArgumentException {
        if (hasRun || table.width >= MOST_COLUMNS) {
            throw new IllegalStateException("no more columns, or a run was done");
        }
        if (cost < 0 || cost > MOST_COST) {
            throw new IllegalArgumentException("no such cost");
        }
        return table.addColumn(cost);
    }

    /** Promise 3. */
    public int row(int kind, int week, long right) throws IllegalStateException, IllegalArgumentException {
        needRoomForRow();
        if (kind < AT_LEAST || kind > JUST) {
            throw new IllegalArgumentException("no such kind");
        }
        if (week < 0 || week >= weeks) {
            throw new IllegalArgumentException("no such week");
        }
        needRight(right);
        return addRow(kind, week, right);
    }

    /** Promise 4. */
    public int factor(int row, int column, int v)
            throws IndexOutOfBoundsException, IllegalStateException, IllegalArgumentException {
        needRow(row);
        needColumn(column);
        if (row < rowsInTable) {
            throw new IllegalStateException("the row is in the table");
        }
        if (v < -MOST_FACTOR || v > MOST_FACTOR) {
            throw new IllegalArgumentException("no such factor");
        }
        int before = factors[factorPlace(row, column)];
        factors[factorPlace(row, column)] = v;
        return before;
    }

    /** Promise 5. */
    public int cut(int a, int b)
            throws IndexOutOfBoundsException, IllegalStateException, IllegalArgumentException {
        needColumn(a);
        needColumn(b);
        needRoomForRow();
        if (a == b) {
            throw new IllegalArgumentException("both are one column");
        }
        int made = addRow(AT_MOST, 0, 1);
        factors[factorPlace(made, a)] = 1;
        factors[factorPlace(made, b)] = 1;
        return made;
    }

    /** Promise 6. */
    public boolean right(int row, long v) throws IndexOutOfBoundsException, IllegalArgumentException {
        needRow(row);
        needRight(v);
        if (row < rowsInTable && !moveStarts(row, v - rights[row])) {
            return false;
        }
        rights[row] = v;
        latest = NONE;
        return true;
    }

    /** Promise 7. */
    public int run(int steps) throws IllegalArgumentException {
        if (steps < 0 || steps > MOST_STEPS) {
            throw new IllegalArgumentException("no such number of steps");
        }
        hasRun = true;
        latest = bringRows() ? doSteps(steps) : TOO_GREAT;
        return latest;
    }

    /** Promise 8. */
    public long value(int part) throws IllegalArgumentException {
        needPart(part);
        return inLeastTerms(table.cell(Table.COST, Table.START), table.d, part);
    }

    /** Promise 9. */
    public long share(int column, int part) throws IndexOutOfBoundsException, IllegalArgumentException {
        needColumn(column);
        needPart(part);
        return inLeastTerms(table.startOf(column), table.d, part);
    }

    /** Promise 10. */
    public long dual(int row, int part) throws IndexOutOfBoundsException, IllegalArgumentException {
        needRow(row);
        needPart(part);
        long upper = 0;
        for (int nth = 0; nth < linesInTable(row); nth++) {
            upper += signOf(row, nth) * table.numberBy(Table.COST, variableOf(row, nth));
        }
        return inLeastTerms(upper, table.d, part);
    }

    /** Promise 11. */
    public long factorOf(int row, int part)
            throws IndexOutOfBoundsException, IllegalStateException, IllegalArgumentException {
        needRow(row);
        if (latest != CONTRADICTION) {
            throw new IllegalStateException("the latest run told no contradiction");
        }
        needPart(part);
        // After a run only right() and run() change the table, so the one that would leave is still the same.
        int leaving = table.leavingPlace();
        long upper = 0;
        for (int nth = 0; nth < linesInTable(row); nth++) {
            upper += signOf(row, nth) * timesTaken(leaving, variableOf(row, nth));
        }
        return inLeastTerms(upper, table.d, part);
    }

    /** Promise 12. */
    public int check() {
        for (int r = 0; r < rows; r++) {
            if (!isKept(r)) {
                return r + 1;
            }
        }
        return 0;
    }

    /** Promise 13. */
    public int steps() {
        return stepsDone;
    }

    /** Promise 14. */
    public int count(int what) {
        switch (what) {
            case 0:
                return table.width;
            case 1:
                return rows;
            case 2:
                return table.height;
            case 3:
                return (int) table.d;
            case 4:
                return weeks;
            default:
                return what >= 5 && what - 5 < weeks ? rowsOfWeek(what - 5) : NONE;
        }
    }

    private void needColumn(int column) {
        if (column < 0 || column >= table.width) {
            throw new IndexOutOfBoundsException("no such column");
        }
    }

    private void needRow(int row) {
        if (row < 0 || row >= rows) {
            throw new IndexOutOfBoundsException("no such row");
        }
    }

    private void needRoomForRow() {
        if (rows >= MOST_ROWS) {
            throw new IllegalStateException("no more rows");
        }
    }

    private static void needRight(long right) {
        if (right < -MOST_RIGHT || right > MOST_RIGHT) {
            throw new IllegalArgumentException("no such right side");
        }
    }

    private static void needPart(int part) {
        if (part != UPPER && part != LOWER) {
            throw new IllegalArgumentException("no such part");
        }
    }

    private int addRow(int kind, int week, long right) {
        int made = rows;
        kinds[made] = kind;
        weeksOfRows[made] = week;
        rights[made] = right;
        rows++;
        return made;
    }

    private static int factorPlace(int row, int column) {
        return row * MOST_COLUMNS + column;
    }

    private int rowsOfWeek(int week) {
        int found = 0;
        for (int r = 0; r < rows; r++) {
            if (weeksOfRows[r] == week) {
                found++;
            }
        }
        return found;
    }

    private boolean isKept(int row) {
        long over = table.sumOfStarts(factors, factorPlace(row, 0)) - table.d * rights[row];
        if (kinds[row] == AT_LEAST) {
            return over >= 0;
        }
        return kinds[row] == AT_MOST ? over <= 0 : over == 0;
    }

    private int linesOf(int row) {
        return kinds[row] == JUST ? 2 : 1;
    }

    private int linesInTable(int row) {
        return row < rowsInTable ? linesOf(row) : 0;
    }

    /** 1 if the row's nth line is its sum less its right side, -1 if it is the other way round. */
    private int signOf(int row, int nth) {
        return kinds[row] == AT_MOST || nth == 1 ? -1 : 1;
    }

    private int variableOf(int row, int nth) {
        return table.width + firstLines[row] + nth;
    }

    private boolean bringRows() {
        for (int r = rowsInTable; r < rows; r++) {
            if (!bringRow(r)) {
                return false;
            }
            rowsInTable = r + 1;
        }
        return true;
    }

    private boolean bringRow(int row) {
        table.tell(factors, factorPlace(row, 0), rights[row]);
        // The second line of a row of kind 2 is the first one in the other sign: both fit or none.
        if (!table.toldFits()) {
            return false;
        }
        firstLines[row] = table.height;
        for (int nth = 0; nth < linesOf(row); nth++) {
            table.bringTold(signOf(row, nth));
        }
        return true;
    }

    private int doSteps(int most) {
        for (int done = 0; done <= most; done++) {
            int leaving = table.leavingPlace();
            if (leaving == NONE) {
                return KEPT;
            }
            int entering = table.enteringPlace(leaving);
            if (entering == NONE) {
                return CONTRADICTION;
            }
            if (done == most) {
                return SPENT;
            }
            if (!table.stepFits(leaving, entering)) {
                return TOO_GREAT;
            }
            table.change(leaving, entering);
            stepsDone++;
        }
        return SPENT;
    }

    private boolean moveStarts(int row, long by) {
        table.copyStarts();
        for (int nth = 0; nth < linesOf(row); nth++) {
            table.moveCopied(variableOf(row, nth), -signOf(row, nth) * by);
        }
        // Judged only now: the two lines of a row of kind 2 may undo each other's moves.
        return table.takeCopiedStarts();
    }

    /** D times how often a line is taken in the contradiction of the one that would leave. */
    private long timesTaken(int leaving, int variable) {
        if (leaving == NONE) {
            return 0;
        }
        return table.inside[leaving] == variable ? table.d : -table.numberBy(leaving, variable);
    }

    private static long inLeastTerms(long upper, long lower, int part) {
        long told = part == UPPER ? upper : lower;
        long common = greatestCommon(Math.abs(upper), lower);
        return common == 0 ? told : told / common;
    }

    private static long greatestCommon(long a, long b) {
        // Numbers of 64 bits need fewer than 100 turns.
        for (int turn = 0; turn < 100 && b != 0; turn++) {
            long rest = a % b;
            a = b;
            b = rest;
        }
        return a;
    }

    /**
     * The table: place 0 down is the cost's, place 0 across the starts'; those inside stand down
     * from 1 to height, those outside across from 1 to width.
     */
    private static final class Table {
        private static final int COST = 0;
        private static final int START = 0;
        private static final int ACROSS = MOST_COLUMNS + 1;
        private static final int DOWN = MOST_LINES + 1;

        private final long[] cells = new long[DOWN * ACROSS];
        private final int[] inside = new int[DOWN];
        private final int[] outside = new int[ACROSS];
        private final long[] told = new long[ACROSS];
        private final long[] starts = new long[DOWN];
        private int width = 0;
        private int height = 0;
        private long d = 1;

        private long cell(int i, int k) {
            return cells[i * ACROSS + k];
        }

        private void setCell(int i, int k, long v) {
            cells[i * ACROSS + k] = v;
        }

        private static boolean fits(long v) {
            return v >= -MOST_NUMBER && v <= MOST_NUMBER;
        }

        private int addColumn(long cost) {
            int made = width;
            width++;
            outside[width] = made;
            setCell(COST, width, cost);
            return made;
        }

        private int placeInside(int variable) {
            for (int i = 1; i <= height; i++) {
                if (inside[i] == variable) {
                    return i;
                }
            }
            return NONE;
        }

        private int placeOutside(int variable) {
            for (int k = 1; k <= width; k++) {
                if (outside[k] == variable) {
                    return k;
                }
            }
            return NONE;
        }

        private long startOf(int variable) {
            int i = placeInside(variable);
            return i == NONE ? 0 : cell(i, START);
        }

        /** The number at place i by a variable; 0 if that is not outside. */
        private long numberBy(int i, int variable) {
            int k = placeOutside(variable);
            return k == NONE ? 0 : cell(i, k);
        }

        /** D times what a row's sum is by the amounts. */
        private long sumOfStarts(int[] factors, int from) {
            long sum = 0;
            for (int column = 0; column < width; column++) {
                sum += factors[from + column] * startOf(column);
            }
            return sum;
        }

        /** Tells D times a row's sum less its right side by those outside. */
        private void tell(int[] factors, int from, long right) {
            Arrays.fill(told, 0);
            for (int column = 0; column < width; column++) {
                tellColumn(column, factors[from + column]);
            }
            told[START] -= d * right;
        }

        private void tellColumn(int column, long factor) {
            int outsideAt = placeOutside(column);
            if (outsideAt != NONE) {
                told[outsideAt] += factor * d;
                return;
            }
            int insideAt = placeInside(column);
            for (int k = 0; insideAt != NONE && k <= width; k++) {
                told[k] += factor * cell(insideAt, k);
            }
        }

        private boolean toldFits() {
            for (int k = 0; k <= width; k++) {
                if (!fits(told[k])) {
                    return false;
                }
            }
            return true;
        }

        private void bringTold(int sign) {
            if (height >= MOST_LINES) {
                return;
            }
            int variable = width + height;
            height++;
            inside[height] = variable;
            for (int k = 0; k <= width; k++) {
                setCell(height, k, sign * told[k]);
            }
        }

        private int leavingPlace() {
            int best = NONE;
            for (int i = 1; i <= height; i++) {
                if (cell(i, START) < 0 && (best == NONE || inside[i] < inside[best])) {
                    best = i;
                }
            }
            return best;
        }

        private int enteringPlace(int leaving) {
            int best = NONE;
            for (int k = 1; k <= width; k++) {
                if (cell(leaving, k) > 0 && (best == NONE || entersBefore(leaving, k, best))) {
                    best = k;
                }
            }
            return best;
        }

        private boolean entersBefore(int leaving, int k, int other) {
            // Both are divided by numbers above 0, so their cross products tell the order.
            long here = cell(COST, k) * cell(leaving, other);
            long there = cell(COST, other) * cell(leaving, k);
            return here < there || here == there && outside[k] < outside[other];
        }

        private long afterStep(long v, long p, long c, long w) {
            // D is never 0, but no division may hang on that alone.
            return d == 0 ? 0 : (v * p - c * w) / d;
        }

        private boolean stepFits(int leaving, int entering) {
            // The other places get numbers that are in the table now, or D: these fit.
            for (int i = 0; i <= height; i++) {
                if (i != leaving && !otherFits(i, leaving, entering)) {
                    return false;
                }
            }
            return true;
        }

        private boolean otherFits(int i, int leaving, int entering) {
            long p = cell(leaving, entering);
            long c = cell(i, entering);
            for (int k = 0; k <= width; k++) {
                if (k != entering && !fits(afterStep(cell(i, k), p, c, cell(leaving, k)))) {
                    return false;
                }
            }
            return true;
        }

        private void change(int leaving, int entering) {
            long p = cell(leaving, entering);
            for (int i = 0; i <= height; i++) {
                if (i != leaving) {
                    changeOther(i, leaving, entering);
                }
            }
            changeEntered(leaving, entering);
            int left = inside[leaving];
            inside[leaving] = outside[entering];
            outside[entering] = left;
            d = p;
        }

        private void changeOther(int i, int leaving, int entering) {
            long p = cell(leaving, entering);
            long c = cell(i, entering);
            for (int k = 0; k <= width; k++) {
                if (k != entering) {
                    setCell(i, k, afterStep(cell(i, k), p, c, cell(leaving, k)));
                }
            }
        }

        private void changeEntered(int leaving, int entering) {
            for (int k = 0; k <= width; k++) {
                setCell(leaving, k, k == entering ? d : -cell(leaving, k));
            }
        }

        private void copyStarts() {
            for (int i = 0; i <= height; i++) {
                starts[i] = cell(i, START);
            }
        }

        /** The copied starts as they are if a variable becomes greater by so much. */
        private void moveCopied(int variable, long by) {
            int insideAt = placeInside(variable);
            if (insideAt != NONE) {
                starts[insideAt] += d * by;
                return;
            }
            int outsideAt = placeOutside(variable);
            for (int i = 0; outsideAt != NONE && i <= height; i++) {
                starts[i] -= cell(i, outsideAt) * by;
            }
        }

        private boolean takeCopiedStarts() {
            for (int i = 0; i <= height; i++) {
                if (!fits(starts[i])) {
                    return false;
                }
            }
            for (int i = 0; i <= height; i++) {
                setCell(i, START, starts[i]);
            }
            return true;
        }
    }
}
