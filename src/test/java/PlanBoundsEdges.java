/**
 * Each sentence of the document that names a boundary case, with a test of its own under its words (or
 * the part of them that it is for): the value at the limit and the one just beyond it, nothing there
 * yet, all places taken, numbers at the ends of their type. What stands unchanged after a refused call
 * is looked at in PlanBoundsTwins too.
 */
public final class PlanBoundsEdges {
    private static final String INDEX = "IndexOutOfBoundsException";
    private static final String STATE = "IllegalStateException";
    private static final String ARGUMENT = "IllegalArgumentException";
    private static final int[] NO_PLACES = {-1, Integer.MIN_VALUE, Integer.MAX_VALUE};
    private static final int[] NO_PARTS = {-1, 2, Integer.MIN_VALUE, Integer.MAX_VALUE};
    /** Cut to 32, 16 or 8 bits each of these is 0 or -1. */
    private static final long[] FAR = {Long.MIN_VALUE, Long.MAX_VALUE, 1L << 32, -(1L << 32), 1L << 62};
    private static String sentence = "";
    private static int sentences = 0;
    private static int wrong = 0;

    private interface Call {
        Object go();
    }

    private static void says(String words) {
        sentence = words;
        sentences++;
    }

    private static String answer(Call call) {
        try {
            return String.valueOf(call.go());
        } catch (RuntimeException e) {
            return e.getClass().getSimpleName();
        }
    }

    private static void due(String what, Call call, Object want) {
        String got = answer(call);
        if (!got.equals(String.valueOf(want))) {
            wrong++;
            System.out.println("'" + sentence + "': " + what + " answered " + got + ", due is " + want);
        }
    }

    private static void dueFraction(String what, Call upper, Call lower, String want) {
        due(what, () -> answer(upper) + "/" + answer(lower), want);
    }

    private static void dueValue(PlanBounds x, String want) {
        dueFraction("value", () -> x.value(0), () -> x.value(1), want);
    }

    private static void dueShare(PlanBounds x, int column, String want) {
        dueFraction("share of " + column, () -> x.share(column, 0), () -> x.share(column, 1), want);
    }

    private static void dueDual(PlanBounds x, int row, String want) {
        dueFraction("dual of " + row, () -> x.dual(row, 0), () -> x.dual(row, 1), want);
    }

    private static void dueFactorOf(PlanBounds x, int row, String want) {
        dueFraction("factorOf " + row, () -> x.factorOf(row, 0), () -> x.factorOf(row, 1), want);
    }

    private static void dueRun(PlanBounds x, int steps, Object want) {
        due("run " + steps, () -> x.run(steps), want);
    }

    private static void dueRight(PlanBounds x, int row, long v, Object want) {
        due("right of " + row + " to " + v, () -> x.right(row, v), want);
    }

    private static void dueCount(PlanBounds x, int what, int want) {
        due("count " + what, () -> x.count(what), want);
    }

    private static PlanBounds plan(long... costs) {
        PlanBounds x = new PlanBounds(60);
        for (long cost : costs) {
            x.column(cost);
        }
        return x;
    }

    private static PlanBounds planOf(int columns) {
        return plan(new long[columns]);
    }

    private static int add(PlanBounds x, int kind, long right, int... factors) {
        int row = x.row(kind, 0, right);
        for (int j = 0; j < factors.length; j++) {
            x.factor(row, j, factors[j]);
        }
        return row;
    }

    private static void addRows(PlanBounds x, int many) {
        for (int r = 0; r < many; r++) {
            x.row(0, 0, 0);
        }
    }

    // What it is

    private static void manyCalls() {
        says("An object is used for at most 512 calls after it has been made");
        PlanBounds x = planOf(1);
        x.row(0, 0, 1);
        x.factor(0, 0, 1);
        for (int call = 4; call <= 508; call += 2) {
            long v = call;
            dueRight(x, 0, v, true);
            dueRun(x, 1, 0);
        }
        dueShare(x, 0, "508/1");
        due("call 512", x::steps, 1);
    }

    // Terms: columns and rows

    private static void atMostTwelveColumns() {
        says("COLUMNS 0, 1, .. (at most 12)");
        PlanBounds x = new PlanBounds(1);
        dueCount(x, 0, 0);
        for (int j = 0; j < 12; j++) {
            due("column", () -> x.column(1), j);
            dueCount(x, 0, j + 1);
        }
        due("a thirteenth", () -> x.column(1), STATE);
        dueCount(x, 0, 12);
        x.row(0, 0, 0);
        due("the last one is there", () -> x.factor(0, 11, 5), 0);
        due("the one behind it is not", () -> x.factor(0, 12, 5), INDEX);
        dueShare(x, 11, "0/1");
        due("nor is its share", () -> x.share(12, 0), INDEX);
    }

    private static void amountsAreAtLeastZero() {
        says("amounts that are at least 0");
        PlanBounds x = planOf(1);
        add(x, 1, 0, 1);
        dueRun(x, 9, 0);
        dueRight(x, 0, -1, true);
        dueRun(x, 9, 1);
        PlanBounds y = planOf(1);
        add(y, 2, 0, 1);
        dueRun(y, 9, 0);
        dueRight(y, 0, -1, true);
        dueRun(y, 9, 1);
    }

    private static void costsAreInside() {
        says("each with a COST, 0 .. 1000");
        PlanBounds x = new PlanBounds(1);
        due("0", () -> x.column(0), 0);
        due("1000", () -> x.column(1000), 1);
        due("-1", () -> x.column(-1), ARGUMENT);
        due("1001", () -> x.column(1001), ARGUMENT);
        for (long cost : FAR) {
            due("" + cost, () -> x.column(cost), ARGUMENT);
        }
        dueCount(x, 0, 2);
        add(x, 0, 3, 1, 0);
        dueRun(x, 9, 0);
        dueValue(x, "0/1");
        add(x, 0, 3, 0, 1);
        dueRun(x, 9, 0);
        dueValue(x, "3000/1");
    }

    private static void atMostTwelveRows() {
        says("ROWS 0, 1, .. (at most 12)");
        PlanBounds x = planOf(2);
        dueCount(x, 1, 0);
        for (int r = 0; r < 12; r++) {
            due("row or cut", r % 2 == 0 ? () -> x.row(0, 0, 0) : () -> x.cut(0, 1), r);
            dueCount(x, 1, r + 1);
        }
        due("a thirteenth", () -> x.row(0, 0, 0), STATE);
        due("a thirteenth as a cut", () -> x.cut(0, 1), STATE);
        dueCount(x, 1, 12);
        due("the last one is there", () -> x.factor(11, 0, 5), 1);
        due("the one behind it is not", () -> x.factor(12, 0, 5), INDEX);
        due("nor is its right side", () -> x.right(12, 0), INDEX);
        due("nor is its dual", () -> x.dual(12, 0), INDEX);
        due("nor is its part of a proof", () -> x.factorOf(12, 0), INDEX);
    }

    private static void rightSidesAreInside() {
        says("a RIGHT side (-1000000 .. 1000000)");
        PlanBounds x = planOf(1);
        due("the greatest", () -> x.row(1, 0, 1000000), 0);
        due("the least", () -> x.row(0, 0, -1000000), 1);
        due("just above", () -> x.row(0, 0, 1000001), ARGUMENT);
        due("just below", () -> x.row(0, 0, -1000001), ARGUMENT);
        for (long right : FAR) {
            due("row with " + right, () -> x.row(0, 0, right), ARGUMENT);
            dueRight(x, 0, right, ARGUMENT);
        }
        dueCount(x, 1, 2);
        dueRight(x, 0, 1000001, ARGUMENT);
        dueRight(x, 0, -1000001, ARGUMENT);
        due("both are kept by 0", x::check, 0);
        dueRight(x, 1, 1000000, true);
        due("the greatest at least", x::check, 2);
        dueRight(x, 0, -1000000, true);
        due("the least at most", x::check, 1);
    }

    private static void factorsAreInside() {
        says("for each column a FACTOR (-1000 .. 1000; 0 at first)");
        PlanBounds x = planOf(12);
        addRows(x, 12);
        for (int r = 0; r < 12; r++) {
            for (int j = 0; j < 12; j++) {
                int row = r;
                int column = j;
                due("at first " + r + " " + j, () -> x.factor(row, column, row * 12 + column - 60), 0);
            }
        }
        for (int r = 0; r < 12; r++) {
            for (int j = 0; j < 12; j++) {
                int row = r;
                int column = j;
                due("its own " + r + " " + j, () -> x.factor(row, column, 0), r * 12 + j - 60);
            }
        }
        due("greatest", () -> x.factor(11, 11, 1000), 0);
        due("least", () -> x.factor(11, 11, -1000), 1000);
        due("just above", () -> x.factor(11, 11, 1001), ARGUMENT);
        due("just below", () -> x.factor(11, 11, -1001), ARGUMENT);
        due("least of all", () -> x.factor(11, 11, Integer.MIN_VALUE), ARGUMENT);
        due("greatest of all", () -> x.factor(11, 11, Integer.MAX_VALUE), ARGUMENT);
        due("cut to 16 bits it is 0", () -> x.factor(11, 11, 1 << 16), ARGUMENT);
        due("still the least", () -> x.factor(11, 11, 0), -1000);
    }

    /** A plan of one column that is 7 by a row of kind 2, and beside it a row that is only looked at. */
    private static PlanBounds seven(int kind, long right) {
        PlanBounds x = planOf(1);
        add(x, 2, 7, 1);
        dueRun(x, 9, 0);
        add(x, kind, right, 1);
        return x;
    }

    private static void atLeast() {
        says("must be at least the right side (kind 0)");
        due("just that", seven(0, 7)::check, 0);
        due("one too little", seven(0, 8)::check, 2);
        due("one more than needed", seven(0, 6)::check, 0);
        PlanBounds x = seven(0, 8);
        dueRun(x, 9, 1);
        dueRight(x, 1, 7, true);
        dueRun(x, 9, 0);
    }

    private static void atMost() {
        says("at most that (1)");
        due("just that", seven(1, 7)::check, 0);
        due("one too much", seven(1, 6)::check, 2);
        due("one less", seven(1, 8)::check, 0);
        PlanBounds x = seven(1, 6);
        dueRun(x, 9, 1);
        dueRight(x, 1, 7, true);
        dueRun(x, 9, 0);
    }

    private static void justThat() {
        says("or just that (2)");
        due("just that", seven(2, 7)::check, 0);
        due("one too little", seven(2, 8)::check, 2);
        due("one too much", seven(2, 6)::check, 2);
        PlanBounds x = seven(2, 6);
        dueRun(x, 9, 1);
        dueRight(x, 1, 8, true);
        dueRun(x, 9, 1);
        dueRight(x, 1, 7, true);
        dueRun(x, 9, 0);
    }

    // Terms: the table

    private static void linesStandBehindAllColumns() {
        says("VARIABLES: the columns, numbered as they are, and behind all of these LINES, as they came");
        // By one step column 0 is 2; then it and line 1 are below 0: the column leaves first.
        PlanBounds x = planOf(2);
        add(x, 0, 2, 1, 1);
        add(x, 0, 0, 0, 1);
        dueRun(x, 9, 0);
        dueShare(x, 0, "2/1");
        dueRight(x, 0, -2, true);
        dueRight(x, 1, 3, true);
        dueRun(x, 1, 2);
        dueShare(x, 0, "0/1");
        dueShare(x, 1, "0/1");
        dueRun(x, 1, 0);
        dueShare(x, 1, "3/1");
        // A row that came later has the greater line, whatever its start.
        PlanBounds y = planOf(2);
        add(y, 0, 1, 1, 0);
        add(y, 0, 1000000, 0, 1);
        dueRun(y, 1, 2);
        dueShare(y, 0, "1/1");
        dueShare(y, 1, "0/1");
    }

    private static void kindTwoMakesBoth() {
        says("a row of kind 0 makes one line ..; of kind 1 one ..; of kind 2 both, in this order");
        PlanBounds x = planOf(12);
        int[] lines = {1, 2, 4};
        for (int kind = 0; kind < 3; kind++) {
            x.row(kind, 0, 0);
            dueRun(x, 0, 0);
            dueCount(x, 2, lines[kind]);
        }
        PlanBounds full = planOf(12);
        for (int r = 0; r < 12; r++) {
            add(full, 2, r + 1, new int[r + 1]);
            full.factor(r, r, 1);
        }
        dueRun(full, 11, 2);
        dueCount(full, 2, 24);
        dueRun(full, 1, 0);
        for (int j = 0; j < 12; j++) {
            dueShare(full, j, (j + 1) + "/1");
        }
        // Below 0 the second line is the one that is below 0, above 0 the first.
        PlanBounds y = planOf(1);
        add(y, 2, -1, 1);
        dueRun(y, 9, 1);
        dueFactorOf(y, 0, "-1/1");
        PlanBounds z = planOf(0);
        add(z, 2, 1);
        dueRun(z, 9, 1);
        dueFactorOf(z, 0, "1/1");
    }

    private static void atFirst() {
        says("With a whole number D (1 at first) .. At first all columns are outside, and nothing is inside");
        PlanBounds x = plan(5, 1000);
        add(x, 0, 9, 3, 1);
        dueCount(x, 3, 1);
        dueCount(x, 2, 0);
        dueShare(x, 0, "0/1");
        dueShare(x, 1, "0/1");
        dueValue(x, "0/1");
        dueDual(x, 0, "0/1");
        dueRun(x, 0, 2);
        dueCount(x, 3, 1);
        dueCount(x, 2, 1);
        dueShare(x, 0, "0/1");
        dueRun(x, 1, 0);
        dueCount(x, 3, 3);
    }

    private static void nothingAtAll() {
        says("With nothing there: no columns, no rows");
        PlanBounds x = new PlanBounds(1);
        dueRun(x, 0, 0);
        dueRun(x, 1000, 0);
        due("check", x::check, 0);
        dueValue(x, "0/1");
        for (long right : new long[] {-1000000, 0}) {
            PlanBounds y = new PlanBounds(1);
            y.row(0, 0, right);
            dueRun(y, 5, 0);
            dueCount(y, 2, 1);
        }
        PlanBounds z = new PlanBounds(1);
        z.row(0, 0, 1);
        dueRun(z, 5, 1);
        dueFactorOf(z, 0, "1/1");
        due("check", z::check, 1);
        due("no step", z::steps, 0);
    }

    // Terms: a step

    private static void leavesIfBelowZero() {
        says("of those inside whose start is below 0");
        PlanBounds x = planOf(1);
        add(x, 0, 0, 1);
        dueRun(x, 9, 0);
        due("0 is not below 0", x::steps, 0);
        dueRight(x, 0, 1, true);
        dueRun(x, 9, 0);
        due("-1 is", x::steps, 1);
        dueShare(x, 0, "1/1");
    }

    private static void leastNumberLeaves() {
        says("that with the least number LEAVES");
        PlanBounds x = planOf(3);
        add(x, 0, 1, 1, 0, 0);
        add(x, 0, 7, 0, 1, 0);
        add(x, 0, 3, 0, 0, 1);
        for (int step = 0; step < 3; step++) {
            dueRun(x, 1, step < 2 ? 2 : 0);
            dueShare(x, 0, "1/1");
            dueShare(x, 1, step < 1 ? "0/1" : "7/1");
            dueShare(x, 2, step < 2 ? "0/1" : "3/1");
        }
        // Column 1 came inside first, but column 0 has the lesser number.
        PlanBounds y = planOf(2);
        add(y, 0, 1, 0, 1);
        add(y, 0, 1, 1, 0);
        dueRun(y, 9, 0);
        dueRight(y, 0, -1, true);
        dueRight(y, 1, -1, true);
        dueRun(y, 1, 2);
        dueShare(y, 0, "0/1");
        dueShare(y, 1, "-1/1");
        dueRun(y, 1, 0);
    }

    private static void entersByNumberAboveZero() {
        says("of those outside by which that one has a number above 0");
        PlanBounds x = plan(0, 0, 1000);
        add(x, 0, 5, -1, 0, 1);
        dueRun(x, 9, 0);
        dueShare(x, 0, "0/1");
        dueShare(x, 1, "0/1");
        dueShare(x, 2, "5/1");
        PlanBounds y = plan(0, 0, 1000);
        add(y, 0, 5, -1, 0, 0);
        dueRun(y, 9, 1);
    }

    private static void leastQuotientEnters() {
        says("the cost's number by it, divided by that number, is the least, of several the least number");
        // 999 by 1000 is less than 1, and 1 by 1 is as much as 1000 by 1000.
        PlanBounds x = plan(1000, 999, 1);
        add(x, 0, 1000, 1000, 1000, 1);
        dueRun(x, 9, 0);
        dueShare(x, 1, "1/1");
        dueValue(x, "999/1");
        // 3 by 2 and 5 by 4 are both more than 1, and less than 2.
        PlanBounds near = plan(3, 5);
        add(near, 0, 8, 2, 4);
        dueRun(near, 9, 0);
        dueShare(near, 1, "2/1");
        PlanBounds y = plan(1000, 1000, 1);
        add(y, 0, 1000, 1000, 1000, 1);
        dueRun(y, 9, 0);
        dueShare(y, 0, "1/1");
        PlanBounds z = plan(1, 1, 0, 0);
        add(z, 0, 4, 1, 1, 2, 4);
        dueRun(z, 9, 0);
        dueShare(z, 2, "2/1");
        dueShare(z, 3, "0/1");
        // Line 4 is outside at the place of column 0, so by places, not numbers, it would come first.
        PlanBounds u = plan(0, 0);
        add(u, 0, 1, 1, 0);
        dueRun(u, 9, 0);
        add(u, 0, 5, 1, 1);
        dueRun(u, 9, 0);
        dueShare(u, 0, "1/1");
        dueShare(u, 1, "4/1");
    }

    private static void changesPlaces() {
        says("they change their places .. D is p then");
        PlanBounds x = plan(3, 2);
        add(x, 0, 7, 5, 3);
        add(x, 0, 1, -1, 1);
        // Step 1: column 0 by 5 (3 by 5 is less than 2 by 3). Step 2: column 1 by 8.
        dueRun(x, 1, 2);
        dueCount(x, 3, 5);
        dueShare(x, 0, "7/5");
        dueValue(x, "21/5");
        dueDual(x, 0, "3/5");
        dueRun(x, 1, 0);
        dueCount(x, 3, 8);
        dueShare(x, 0, "1/2");
        dueShare(x, 1, "3/2");
        dueValue(x, "9/2");
        dueDual(x, 0, "5/8");
        dueDual(x, 1, "1/8");
        // Back: with right sides that ask for nothing the columns go out again, and D is 1.
        dueRight(x, 0, -1, true);
        dueRight(x, 1, -1, true);
        dueRun(x, 9, 0);
        dueCount(x, 3, 1);
        dueValue(x, "0/1");
        dueDual(x, 0, "0/1");
    }

    // Terms: too great

    /** Column 0 is inside with start 1, D is 1000, and a row with its factor f by it comes. */
    private static PlanBounds thousand(int kind, long right, int f) {
        PlanBounds x = planOf(1);
        add(x, 0, 1, 1000);
        dueRun(x, 9, 0);
        dueCount(x, 3, 1000);
        add(x, kind, right, f);
        return x;
    }

    private static void startThatComes() {
        says("no start is ever beyond 1000000000 in size: a line that comes");
        int[][] cases = {
            // kind, right side in millions, factor, answer, lines then
            {0, 1, 0, 1, 2}, {0, 1, -1, 3, 1}, {0, 1, 1, 1000, 2}, {0, -1, 0, 0, 2}, {0, -1, 1, 3, 1}, {0, -1, -1, 0, 2},
            {1, 1, 0, 0, 2}, {1, 1, -1, 3, 1}, {1, 1, 1, 0, 2}, {1, -1, 0, 1, 2}, {1, -1, 1, 3, 1},
            {2, 1, 0, 1, 3}, {2, 1, -1, 3, 1}, {2, -1, 0, 1, 3}, {2, -1, 1, 3, 1}, {2, -1, -1, 1000, 3}
        };
        for (int[] c : cases) {
            PlanBounds x = thousand(c[0], c[1] * 1000000L, c[2]);
            String what = "kind " + c[0] + ", right " + c[1] + " million, factor " + c[2];
            // Which end a line comes to that fits is of no matter here: only that it is not 3.
            due(what, () -> c[3] == 1000 ? x.run(0) != 3 : x.run(0), c[3] == 1000 ? true : c[3]);
            dueCount(x, 2, c[4]);
            dueShare(x, 0, "1/1000");
        }
    }

    /** Two steps make D 1000000, and column 0 has the number 1 by column 2. */
    private static PlanBounds million() {
        PlanBounds x = planOf(3);
        add(x, 0, 1, 1000, -1, 0);
        add(x, 0, 1, 0, 1000, -1);
        dueRun(x, 9, 0);
        dueCount(x, 3, 1000000);
        dueShare(x, 0, "1001/1000000");
        return x;
    }

    private static void numberThatComes() {
        says("No number of the table is ever beyond 1000000000 in size: a line that comes");
        for (int kind = 0; kind < 3; kind++) {
            for (int sign = -1; sign <= 1; sign += 2) {
                for (int f = -1; f <= 1; f++) {
                    PlanBounds x = million();
                    add(x, kind, 0, f * sign, 0, 1000 * sign);
                    boolean fits = f <= 0;
                    due("factors " + f * sign + " and " + 1000 * sign, () -> x.run(0) != 3, fits);
                    dueCount(x, 2, fits ? kind == 2 ? 4 : 3 : 2);
                }
            }
        }
    }

    private static void startByStep() {
        says("No start is ever beyond 1000000000 in size: a step");
        for (int kind = 0; kind < 2; kind++) {
            for (int f = -1; f <= 1; f++) {
                int factor = kind == 0 ? f : -f;
                long right = kind == 0 ? -1000000 : 1000000;
                PlanBounds x = planOf(1);
                add(x, 0, 1, 1000);
                add(x, kind, right, factor);
                // The step makes the second line's start 1000 times a million and f.
                dueRun(x, 9, f <= 0 ? 0 : 3);
                due("steps", x::steps, f <= 0 ? 1 : 0);
                dueCount(x, 3, f <= 0 ? 1000 : 1);
                dueCount(x, 2, 2);
                dueShare(x, 0, f <= 0 ? "1/1000" : "0/1");
                due("check", x::check, f <= 0 ? 0 : 1);
            }
        }
        PlanBounds y = planOf(2);
        add(y, 0, 1, 1000, 0);
        add(y, 0, 1000000, 0, 1);
        dueRun(y, 9, 0);
        dueShare(y, 1, "1000000/1");
        PlanBounds z = planOf(2);
        add(z, 0, 1, 1000, 0);
        add(z, 0, 1000000, -1, 1);
        dueRun(z, 9, 3);
        due("below 0 just as above: steps", z::steps, 0);
    }

    /** Two forced steps; the third row, or the cost, is then by column 2 a thousand million and a. */
    private static PlanBounds thousandMillion(long cost, int kind, int a, int b) {
        PlanBounds x = plan(cost == 0 ? 0 : a, 0, cost);
        add(x, 0, 1, 1000, -1, 0);
        add(x, 0, 1, 0, 1000, -1);
        if (cost == 0) {
            add(x, kind, kind == 0 ? -1 : 1, a, 0, b);
        }
        return x;
    }

    private static void numberByStep() {
        says("No number of the table is ever beyond 1000000000 in size: a step");
        for (int kind = 0; kind < 2; kind++) {
            for (int sign = -1; sign <= 1; sign += 2) {
                for (int a = -1; a <= 1; a++) {
                    PlanBounds x = thousandMillion(0, kind, a * sign, 1000 * sign);
                    dueRun(x, 9, a <= 0 ? 0 : 3);
                    due("steps", x::steps, a <= 0 ? 2 : 1);
                    dueCount(x, 3, a <= 0 ? 1000000 : 1000);
                    dueCount(x, 2, 3);
                }
            }
        }
    }

    private static void costByStep() {
        says("No number of the table, and no start, is ever beyond 1000000000: the cost's");
        for (int a = 0; a <= 1; a++) {
            PlanBounds x = thousandMillion(1000, 0, a, 0);
            dueRun(x, 9, a == 0 ? 0 : 3);
            due("steps", x::steps, a == 0 ? 2 : 1);
            dueValue(x, a == 0 ? "0/1" : "1/1000");
        }
        for (int a = 0; a <= 1; a++) {
            PlanBounds x = plan(1000, a);
            add(x, 0, 1000000, 1, 0);
            add(x, 0, 1, 0, 1);
            dueRun(x, 9, a == 0 ? 0 : 3);
            due("steps", x::steps, a == 0 ? 2 : 1);
            dueValue(x, "1000000000/1");
            dueShare(x, 1, a == 0 ? "1/1" : "0/1");
        }
    }

    private static void greatestD() {
        says("is ever beyond 1000000000 in size, with D");
        PlanBounds x = planOf(4);
        for (int j = 0; j < 3; j++) {
            add(x, 0, 1, new int[j + 1]);
            x.factor(j, j, 1000);
        }
        dueRun(x, 3, 0);
        dueCount(x, 3, 1000000000);
        dueShare(x, 2, "1/1000");
        add(x, 0, 1, 0, 0, 0, 1);
        dueRun(x, 9, 0);
        dueCount(x, 3, 1000000000);
        dueShare(x, 3, "1/1");
        // Column 3 has the number D by its line: twice that is too great.
        add(x, 0, 1, 0, 0, 0, 2);
        dueRun(x, 9, 3);
        PlanBounds y = planOf(4);
        for (int j = 0; j < 3; j++) {
            add(y, 0, 1, new int[j + 1]);
            y.factor(j, j, 1000);
        }
        dueRun(y, 3, 0);
        add(y, 0, 0, 0, 0, 0, 2);
        dueRun(y, 9, 3);
        dueCount(y, 2, 3);
        due("a smaller factor", () -> y.factor(3, 3, -1), 2);
        dueRun(y, 9, 0);
        dueCount(y, 2, 4);
        // D itself would be 1000000001 by the third step, but the second would put that into the table.
        PlanBounds z = planOf(3);
        add(z, 0, 1, 1000, -1, 0);
        add(z, 0, 1, 0, 1000, -1);
        add(z, 0, 1, 1, 0, 1000);
        dueRun(z, 9, 3);
        dueCount(z, 3, 1000);
        due("steps", z::steps, 1);
    }

    private static void whatIsTooGreatIsNotDone() {
        says("what would make one so is not done");
        PlanBounds x = thousandMillion(0, 0, 1, 1000);
        dueRun(x, 1, 2);
        for (int turn = 0; turn < 3; turn++) {
            dueRun(x, 9, 3);
            due("steps", x::steps, 1);
            dueCount(x, 3, 1000);
            dueShare(x, 0, "1/1000");
            dueShare(x, 1, "0/1");
            due("check", x::check, 2);
        }
        dueRun(x, 0, 2);
        dueRight(x, 1, 0, true);
        dueRun(x, 9, 0);
        due("no step was needed", x::steps, 1);
    }

    // Terms: fractions and exceptions

    private static void leastTerms() {
        says("FRACTIONS are told in least terms, part 0 upper (with the sign), 1 lower (above 0)");
        PlanBounds x = plan(30);
        add(x, 0, 1, 12);
        dueRun(x, 9, 0);
        dueCount(x, 3, 12);
        String[] shares = {"-1/1", "-11/12", "-1/2", "-1/12", "0/1", "1/12", "1/2", "11/12", "1/1"};
        String[] values = {"-30/1", "-55/2", "-15/1", "-5/2", "0/1", "5/2", "15/1", "55/2", "30/1"};
        int[] rights = {-12, -11, -6, -1, 0, 1, 6, 11, 12};
        for (int i = 0; i < rights.length; i++) {
            dueRight(x, 0, rights[i], true);
            dueShare(x, 0, shares[i]);
            dueValue(x, values[i]);
            dueDual(x, 0, "5/2");
        }
        dueRight(x, 0, 1000000, true);
        dueShare(x, 0, "250000/3");
        dueRight(x, 0, -1000000, true);
        dueShare(x, 0, "-250000/3");
    }

    private static void noSuchPlace() {
        says("IndexOutOfBounds: there is no such column or row");
        PlanBounds x = planOf(2);
        add(x, 1, -1, 1, 1);
        dueRun(x, 9, 1);
        add(x, 0, 0, 0, 0);
        for (int at : new int[] {-1, 2, 12, 13, Integer.MIN_VALUE, Integer.MAX_VALUE}) {
            due("factor of row " + at, () -> x.factor(at, 0, 1), INDEX);
            due("factor by column " + at, () -> x.factor(1, at, 1), INDEX);
            due("cut a " + at, () -> x.cut(at, 0), INDEX);
            due("cut b " + at, () -> x.cut(0, at), INDEX);
            due("cut of both " + at, () -> x.cut(at, at), INDEX);
            dueRight(x, at, 0, INDEX);
            due("share " + at, () -> x.share(at, 0), INDEX);
            due("dual " + at, () -> x.dual(at, 0), INDEX);
            due("factorOf " + at, () -> x.factorOf(at, 0), INDEX);
        }
        PlanBounds none = new PlanBounds(60);
        for (int at : NO_PLACES) {
            due("share of none", () -> none.share(at, 0), INDEX);
        }
        due("cut of no columns", () -> none.cut(0, 1), INDEX);
        due("share of no columns", () -> none.share(0, 0), INDEX);
        due("factor of no rows", () -> none.factor(0, 0, 1), INDEX);
        dueRight(none, 0, 0, INDEX);
        due("dual of no rows", () -> none.dual(0, 0), INDEX);
        due("factorOf no rows", () -> none.factorOf(0, 0), INDEX);
        none.row(0, 0, 0);
        due("factor by no columns", () -> none.factor(0, 0, 1), INDEX);
    }

    private static void theFirstOfSeveral() {
        says("Of several that a call names, the first one");
        PlanBounds x = planOf(12);
        addRows(x, 12);
        due("column: state, argument", () -> x.column(-1), STATE);
        due("row: state, argument", () -> x.row(3, 60, 1000001), STATE);
        due("cut: index, state, argument", () -> x.cut(12, 12), INDEX);
        due("cut: index, state", () -> x.cut(0, 12), INDEX);
        due("cut: state, argument", () -> x.cut(0, 0), STATE);
        due("right: index, argument", () -> x.right(12, 1000001), INDEX);
        due("share: index, argument", () -> x.share(12, 2), INDEX);
        due("dual: index, argument", () -> x.dual(12, 2), INDEX);
        due("factorOf: index, state, argument", () -> x.factorOf(12, 2), INDEX);
        due("factorOf: state, argument", () -> x.factorOf(0, 2), STATE);
        due("factor: index, argument", () -> x.factor(0, 12, 1001), INDEX);
        dueRun(x, 0, 0);
        due("factor: row, state, argument", () -> x.factor(12, 0, 1001), INDEX);
        due("factor: column, state, argument", () -> x.factor(0, 12, 1001), INDEX);
        due("factor: state, argument", () -> x.factor(0, 0, 1001), STATE);
        due("column after a run: state, argument", () -> x.column(1001), STATE);
    }

    // Promises 1 to 5

    private static void nearestWeeks() {
        says("1 to 60; another number counts as the nearest of these");
        int[][] cases = {
            {Integer.MIN_VALUE, 1}, {-1, 1}, {0, 1}, {1, 1}, {2, 2}, {59, 59}, {60, 60}, {61, 60}, {256, 60}, {65536, 60},
            {Integer.MAX_VALUE, 60}
        };
        for (int[] c : cases) {
            PlanBounds x = new PlanBounds(c[0]);
            dueCount(x, 4, c[1]);
            due("the last week of " + c[0], () -> x.row(0, c[1] - 1, 0), 0);
            due("one week more than " + c[0], () -> x.row(0, c[1], 0), ARGUMENT);
            dueCount(x, 5 + c[1] - 1, 1);
            dueCount(x, 5 + c[1], PlanBounds.NONE);
        }
    }

    private static void noneAtFirst() {
        says("No columns, no rows.");
        PlanBounds x = new PlanBounds(60);
        int[] counts = {0, 0, 0, 1, 60};
        for (int what = 0; what < counts.length; what++) {
            dueCount(x, what, counts[what]);
        }
        for (int week = 0; week < 60; week++) {
            dueCount(x, 5 + week, 0);
        }
        due("steps", x::steps, 0);
        due("check", x::check, 0);
        dueValue(x, "0/1");
        due("the first column", () -> x.column(0), 0);
        due("the first row", () -> x.row(0, 0, 0), 0);
    }

    private static void columnAfterRun() {
        says("column: IllegalState: there are 12, or a run() was done");
        for (int answer = 0; answer < 4; answer++) {
            PlanBounds x = planOf(1);
            add(x, answer == 1 ? 1 : 0, answer == 0 ? 0 : answer == 1 ? -1 : 1, 1000);
            if (answer == 3) {
                add(x, 0, -1000000, 1);
            }
            dueRun(x, answer == 2 ? 0 : 9, answer);
            due("column after a run that answered " + answer, () -> x.column(1), STATE);
            dueCount(x, 0, 1);
        }
        PlanBounds empty = new PlanBounds(1);
        dueRun(empty, 0, 0);
        due("column after a run of nothing", () -> empty.column(1), STATE);
        PlanBounds refused = planOf(1);
        dueRun(refused, -1, ARGUMENT);
        dueRun(refused, 1001, ARGUMENT);
        due("column after a run that threw", () -> refused.column(1), 1);
    }

    private static void rowArguments() {
        says("row: IllegalArgument: the kind, the week, the right side");
        PlanBounds x = new PlanBounds(7);
        for (int kind : new int[] {-1, 3, Integer.MIN_VALUE, Integer.MAX_VALUE, 256}) {
            due("kind " + kind, () -> x.row(kind, 0, 0), ARGUMENT);
        }
        for (int week : new int[] {-1, 7, 60, Integer.MIN_VALUE, Integer.MAX_VALUE, 256}) {
            due("week " + week, () -> x.row(0, week, 0), ARGUMENT);
        }
        for (long right : new long[] {-1000001, 1000001}) {
            due("right " + right, () -> x.row(0, 0, right), ARGUMENT);
        }
        dueCount(x, 1, 0);
        for (int kind = 0; kind <= 2; kind++) {
            int at = kind;
            due("the first week", () -> x.row(at, 0, 1000000), 2 * kind);
            due("the last week", () -> x.row(at, 6, -1000000), 2 * kind + 1);
        }
        dueCount(x, 5, 3);
        dueCount(x, 11, 3);
    }

    private static void rowAfterRun() {
        says("row: IllegalState: there are 12");
        PlanBounds x = planOf(1);
        addRows(x, 11);
        dueRun(x, 0, 0);
        due("the twelfth, behind a run", () -> x.row(0, 0, 0), 11);
        due("the thirteenth", () -> x.row(0, 0, 0), STATE);
        due("the thirteenth, as a cut", () -> x.cut(0, 0), STATE);
        dueRun(x, 0, 0);
        dueCount(x, 2, 12);
        due("behind another run", () -> x.row(0, 0, 0), STATE);
    }

    private static void factorOfRowInTable() {
        says("factor: IllegalState: the row is in the table");
        PlanBounds x = thousand(0, 1000000, -1);
        add(x, 0, 0, 5);
        due("before the run", () -> x.factor(1, 0, -1), -1);
        dueRun(x, 0, 3);
        due("in the table", () -> x.factor(0, 0, 1000), STATE);
        due("could not come", () -> x.factor(1, 0, -1), -1);
        due("behind one that could not come", () -> x.factor(2, 0, 6), 5);
        due("now it can", () -> x.factor(1, 0, 0), -1);
        due("run", () -> x.run(0) != 3, true);
        due("came", () -> x.factor(1, 0, 0), STATE);
        due("came too", () -> x.factor(2, 0, 0), STATE);
        due("with the same factor", () -> x.factor(2, 0, 6), STATE);
    }

    private static void cutIsARow() {
        says("A row of kind 1 in week 0 by which two columns are at most 1 together");
        PlanBounds x = planOf(12);
        due("a cut", () -> x.cut(11, 0), 0);
        dueCount(x, 5, 1);
        dueCount(x, 1, 1);
        for (int j = 0; j < 12; j++) {
            int column = j;
            due("factor by " + j, () -> x.factor(0, column, column % 11 == 0 ? 1 : 0), j % 11 == 0 ? 1 : 0);
        }
        for (int more = 0; more < 2; more++) {
            PlanBounds y = planOf(2);
            y.cut(0, 1);
            add(y, 0, 1, 2, 0);
            add(y, 0, 1 + more, 0, 2);
            dueRun(y, 9, more == 0 ? 0 : 1);
            dueDual(y, 0, "0/1");
        }
        PlanBounds z = planOf(2);
        z.cut(1, 0);
        dueRun(z, 9, 0);
        dueCount(z, 2, 1);
        dueRight(z, 0, 0, true);
        due("just kept", z::check, 0);
        dueRight(z, 0, -1, true);
        due("not kept", z::check, 1);
    }

    private static void cutArguments() {
        says("cut: IllegalState: there are 12 rows. IllegalArgument: both are one column");
        PlanBounds x = planOf(2);
        due("of 0 twice", () -> x.cut(0, 0), ARGUMENT);
        due("of 1 twice", () -> x.cut(1, 1), ARGUMENT);
        dueCount(x, 1, 0);
        dueCount(x, 5, 0);
        addRows(x, 11);
        due("the twelfth of one column", () -> x.cut(1, 1), ARGUMENT);
        due("the twelfth", () -> x.cut(1, 0), 11);
        due("the thirteenth", () -> x.cut(1, 0), STATE);
        due("the thirteenth of one column", () -> x.cut(1, 1), STATE);
        dueCount(x, 1, 12);
        dueCount(x, 5, 12);
    }

    // Promise 6

    private static void rightOutsideTheTable() {
        says("Another right side for a row");
        PlanBounds x = planOf(1);
        add(x, 0, 5, 1);
        dueRight(x, 0, 6, true);
        dueShare(x, 0, "0/1");
        dueRight(x, 0, 1000000, true);
        dueRight(x, 0, -1000000, true);
        due("kept", x::check, 0);
        dueRight(x, 0, 3, true);
        dueRun(x, 9, 0);
        dueShare(x, 0, "3/1");
        // A row that cannot come may have any right side that is told.
        PlanBounds y = thousand(0, 1000000, -1);
        dueRun(y, 9, 3);
        dueRight(y, 1, -1000000, true);
        dueRight(y, 1, 1000000, true);
        dueRun(y, 9, 3);
        dueRight(y, 1, -1000000, true);
        dueRun(y, 9, 0);
    }

    private static void rightInTheTable() {
        says("if that is in the table, all starts are what they are by it, the same variables being outside");
        PlanBounds x = plan(3, 2);
        add(x, 0, 7, 5, 3);
        add(x, 0, 1, -1, 1);
        add(x, 1, 9, 1, 1);
        dueRun(x, 9, 0);
        dueCount(x, 3, 8);
        dueRight(x, 0, -9, true);
        dueShare(x, 0, "-3/2");
        dueShare(x, 1, "-1/2");
        dueValue(x, "-11/2");
        dueCount(x, 3, 8);
        due("steps", x::steps, 2);
        dueDual(x, 0, "5/8");
        dueRight(x, 1, -7, true);
        dueShare(x, 0, "3/2");
        dueShare(x, 1, "-11/2");
        dueRight(x, 2, -5, true);
        due("the third is broken", x::check, 3);
        dueRight(x, 2, -4, true);
        due("and just kept", x::check, 0);
        dueShare(x, 0, "3/2");
        // Kind 2: its second line stays 0 while the first, outside, moves the amount.
        PlanBounds y = planOf(1);
        add(y, 2, 1, 1000);
        dueRun(y, 9, 0);
        for (long v : new long[] {1000000, -1000000, 1000000, 0}) {
            dueRight(y, 0, v, true);
            due("kept", y::check, 0);
            dueShare(y, 0, v / 1000 + "/1");
        }
        dueRun(y, 0, 0);
    }

    private static void rightTooGreatInside() {
        says("False: a number would be too great (a start of a line inside)");
        for (int kind = 0; kind < 3; kind++) {
            for (int sign = -1; sign <= 1; sign += 2) {
                for (int f = -1; f <= 1; f++) {
                    PlanBounds x = thousand(kind, 0, -f * sign);
                    due("comes", () -> x.run(0) != 3, true);
                    int check = x.check();
                    // The start becomes a thousand million and f, in size.
                    dueRight(x, 1, sign * 1000000L, f <= 0);
                    dueShare(x, 0, "1/1000");
                    if (f > 0) {
                        due("the right side stands", x::check, check);
                        dueRight(x, 1, sign * 999999L, true);
                    }
                }
            }
        }
    }

    private static void rightTooGreatOutside() {
        says("False: a number would be too great (a start by a line outside)");
        for (int more = 0; more <= 1; more++) {
            PlanBounds x = planOf(1);
            add(x, 0, 0, 1000);
            x.right(0, 1);
            add(x, 0, -more, 1000);
            dueRun(x, 9, 0);
            dueCount(x, 3, 1000);
            dueRight(x, 0, 1000000, more == 0);
            dueShare(x, 0, more == 0 ? "1000/1" : "1/1000");
            dueRight(x, 0, 999999, true);
            dueShare(x, 0, "999999/1000");
            dueRight(x, 0, -1000000, true);
            dueShare(x, 0, "-1000/1");
        }
    }

    private static void rightTooGreatCost() {
        says("False: a number would be too great (the cost's start)");
        PlanBounds x = plan(1000, 1);
        add(x, 0, 1, 1, 0);
        add(x, 0, 1, 0, 1);
        dueRun(x, 9, 0);
        dueRight(x, 0, 1000000, false);
        dueValue(x, "1001/1");
        dueShare(x, 0, "1/1");
        due("the right side stands", x::check, 0);
        dueRight(x, 1, 0, true);
        dueRight(x, 0, 1000000, true);
        dueValue(x, "1000000000/1");
        dueRight(x, 1, 1, false);
        dueValue(x, "1000000000/1");
        dueRight(x, 1, -1, true);
        dueValue(x, "999999999/1");
        dueRight(x, 0, -1000000, false);
        dueRight(x, 1, 0, true);
        dueRight(x, 0, -1000000, true);
        dueValue(x, "-1000000000/1");
        dueRight(x, 1, -1, false);
        dueRight(x, 1, 1, true);
        dueValue(x, "-999999999/1");
    }

    // Promise 7

    private static void stepsAreTold() {
        says("so many steps (0 to 1000) .. IllegalArgument: no such number of steps");
        PlanBounds x = planOf(1);
        add(x, 0, 1, 1);
        for (int steps : new int[] {-1, 1001, Integer.MIN_VALUE, Integer.MAX_VALUE, 65536}) {
            dueRun(x, steps, ARGUMENT);
            dueCount(x, 2, 0);
            due("steps", x::steps, 0);
        }
        dueRun(x, 0, 2);
        dueCount(x, 2, 1);
        dueRun(x, 1000, 0);
        due("steps", x::steps, 1);
    }

    private static void stepsAreSpent() {
        says("2 the steps are spent");
        for (int most = 0; most <= 6; most++) {
            PlanBounds x = planOf(5);
            for (int j = 0; j < 5; j++) {
                add(x, 0, 1, new int[j + 1]);
                x.factor(j, j, 1);
            }
            dueRun(x, most, most < 5 ? 2 : 0);
            due("steps", x::steps, Math.min(most, 5));
            dueRun(x, 0, most < 5 ? 2 : 0);
            due("steps of none", x::steps, Math.min(most, 5));
            due("check", x::check, most < 5 ? most + 1 : 0);
        }
    }

    private static void contradiction() {
        says("1 a CONTRADICTION: the one that would leave has no number above 0");
        int[] answers = {1, 1, 0};
        for (int f = -1; f <= 1; f++) {
            PlanBounds x = planOf(1);
            add(x, 0, 1, f);
            dueRun(x, 9, answers[f + 1]);
            due("steps", x::steps, f == 1 ? 1 : 0);
        }
        // What would leave is told even if no step is left, and before one that could be done.
        PlanBounds y = planOf(1);
        add(y, 0, 1, 0);
        add(y, 0, 1, 1);
        dueRun(y, 0, 1);
        dueRun(y, 9, 1);
        due("steps", y::steps, 0);
        PlanBounds z = planOf(1);
        add(z, 0, 1, 1);
        add(z, 0, 1, 0);
        dueRun(z, 0, 2);
        dueRun(z, 1, 1);
        due("steps", z::steps, 1);
    }

    private static void noneIsBelowZero() {
        says("as long as one inside has a start below 0: 0 none has");
        PlanBounds x = planOf(1);
        add(x, 0, 0, 1);
        add(x, 1, 0, 1);
        add(x, 2, 0, 1);
        dueRun(x, 0, 0);
        dueRun(x, 1000, 0);
        due("steps", x::steps, 0);
        dueRight(x, 0, 1, true);
        due("below 0", () -> x.run(1000), 1);
    }

    private static void lineThatCannotCome() {
        says("3 .. (a line that cannot come, with those of its row, and the rows behind it ..)");
        for (int kind = 0; kind < 3; kind++) {
            PlanBounds x = million();
            int steps = x.steps();
            add(x, 0, 5, 0, 0, 1);
            add(x, kind, 0, 1, 0, 1000);
            add(x, 0, 1, 0, 0, 1);
            dueRun(x, 1000, 3);
            dueCount(x, 2, 3);
            due("no step is done then", x::steps, steps);
            dueShare(x, 2, "0/1");
            due("check", x::check, 3);
            due("no proof", () -> x.factorOf(0, 0), STATE);
            dueDual(x, 3, "0/1");
            dueDual(x, 4, "0/1");
            dueRun(x, 0, 3);
            dueCount(x, 2, 3);
            due("it may change", () -> x.factor(3, 0, 0), 1);
            due("now all come", () -> x.run(0) != 3, true);
            dueCount(x, 2, kind == 2 ? 6 : 5);
        }
    }

    private static void stepThatCannotBeDone() {
        says("3 a number would be too great (.. a step)");
        PlanBounds x = plan(1000, 1);
        add(x, 0, 1000000, 1, 0);
        add(x, 0, 1, 0, 1);
        dueRun(x, 0, 2);
        dueRun(x, 1, 2);
        dueRun(x, 1, 3);
        due("steps", x::steps, 1);
        dueRun(x, 0, 2);
        due("no proof", () -> x.factorOf(0, 0), STATE);
        add(x, 0, 0, 1, 1);
        dueRun(x, 9, 3);
        dueCount(x, 2, 3);
        dueRight(x, 1, 0, true);
        dueRun(x, 9, 0);
    }

    // Promises 8 to 14

    private static void noSuchPart() {
        says("value, share, dual, factorOf: IllegalArgument: part 0 upper, 1 lower");
        PlanBounds x = planOf(1);
        add(x, 1, -1, 1);
        dueRun(x, 9, 1);
        for (int part : NO_PARTS) {
            due("value " + part, () -> x.value(part), ARGUMENT);
            due("share " + part, () -> x.share(0, part), ARGUMENT);
            due("dual " + part, () -> x.dual(0, part), ARGUMENT);
            due("factorOf " + part, () -> x.factorOf(0, part), ARGUMENT);
        }
        dueValue(x, "0/1");
        dueShare(x, 0, "0/1");
        dueDual(x, 0, "0/1");
        dueFactorOf(x, 0, "-1/1");
    }

    private static void dualOfLines() {
        says("of its line the cost's number by D, if that is outside, else 0; .. 0 if it is not in the table");
        PlanBounds x = plan(7);
        add(x, 0, 3, 2);
        dueDual(x, 0, "0/1");
        dueRun(x, 0, 2);
        dueDual(x, 0, "0/1");
        dueRun(x, 1, 0);
        dueDual(x, 0, "7/2");
        add(x, 0, 4, 2);
        dueDual(x, 1, "0/1");
        dueRun(x, 0, 2);
        dueDual(x, 1, "0/1");
        dueRun(x, 1, 0);
        dueDual(x, 1, "7/2");
        dueDual(x, 0, "0/1");
        PlanBounds free = plan(0);
        add(free, 0, 3, 2);
        dueRun(free, 9, 0);
        dueDual(free, 0, "0/1");
        dueShare(free, 0, "3/2");
    }

    private static void dualByKinds() {
        says("of kind 1 below 0 in sign; of kind 2 the first line's less the second one's");
        for (int kind = 1; kind <= 2; kind++) {
            PlanBounds x = plan(2, 5);
            add(x, 0, 10, 1, 1);
            add(x, kind, 4, 1, 0);
            dueRun(x, 9, 0);
            dueDual(x, 0, "5/1");
            dueDual(x, 1, "-3/1");
            PlanBounds y = plan(7);
            add(y, kind, kind == 1 ? -3 : 3, kind == 1 ? -2 : 2);
            dueRun(y, 9, 0);
            dueDual(y, 0, kind == 1 ? "-7/2" : "7/2");
        }
    }

    private static void proofOfContradiction() {
        says("of its line 1, if that would leave; the number by it .. in the other sign, if it is outside; else 0");
        PlanBounds x = planOf(1);
        add(x, 0, 4, 3);
        add(x, 1, 1, 1);
        add(x, 0, 0, 1);
        dueRun(x, 9, 1);
        dueFactorOf(x, 0, "1/3");
        dueFactorOf(x, 1, "-1/1");
        dueFactorOf(x, 2, "0/1");
        add(x, 0, 1, 1);
        dueFactorOf(x, 3, "0/1");
        PlanBounds y = planOf(1);
        add(y, 2, 4, 3);
        add(y, 2, 1, 1);
        dueRun(y, 9, 1);
        // The second row's second line would leave; of the first row the first line is outside.
        dueFactorOf(y, 0, "1/3");
        dueFactorOf(y, 1, "-1/1");
        // A column that would leave is no row's line: only those outside are taken.
        PlanBounds z = planOf(2);
        add(z, 0, 3, -1, 2);
        add(z, 2, 5, 1, 0);
        dueRun(z, 9, 0);
        dueRight(z, 0, -9, true);
        dueRun(z, 9, 0);
        dueRight(z, 1, -2, true);
        dueRun(z, 9, 1);
        dueFactorOf(z, 1, "-1/1");
    }

    private static void noProof() {
        says("factorOf: IllegalState: the latest run() did not answer 1, or there was none, or a right side changed since");
        PlanBounds x = planOf(1);
        add(x, 0, 1, 1);
        due("there was none", () -> x.factorOf(0, 0), STATE);
        dueRun(x, 0, 2);
        due("2", () -> x.factorOf(0, 0), STATE);
        dueRun(x, 9, 0);
        due("0", () -> x.factorOf(0, 0), STATE);
        add(x, 1, 0, 1);
        dueRun(x, 9, 1);
        dueFactorOf(x, 1, "-1/1");
        dueRun(x, 1001, ARGUMENT);
        dueFactorOf(x, 1, "-1/1");
        dueRight(x, 0, 1000001, ARGUMENT);
        dueFactorOf(x, 1, "-1/1");
        add(x, 0, 0, 1);
        dueFactorOf(x, 1, "-1/1");
        dueRight(x, 1, -1, true);
        due("a right side changed", () -> x.factorOf(1, 0), STATE);
        dueRun(x, 0, 1);
        dueFactorOf(x, 1, "-1/1");
        add(x, 0, 5, 1);
        dueRight(x, 3, 6, true);
        due("one not in the table changed", () -> x.factorOf(1, 0), STATE);
        dueRun(x, 0, 1);
        dueRight(x, 1, -1, true);
        due("the same one told anew counts, as README.md says", () -> x.factorOf(1, 0), STATE);
        dueRun(x, 0, 1);
        dueRight(x, 1, 9, true);
        dueRun(x, 9, 0);
        due("0 behind 1", () -> x.factorOf(1, 0), STATE);
    }

    private static void noProofAfterTooGreat() {
        says("the latest run() did not answer 1: 3 behind 1");
        PlanBounds x = thousand(1, 0, 1);
        dueRun(x, 9, 1);
        dueFactorOf(x, 0, "1/1000");
        dueRight(x, 1, -1000000, false);
        dueFactorOf(x, 0, "1/1000");
        dueFactorOf(x, 1, "-1/1");
        add(x, 0, 1000000, -1);
        dueFactorOf(x, 0, "1/1000");
        dueRun(x, 9, 3);
        due("3", () -> x.factorOf(0, 0), STATE);
        dueRight(x, 2, 0, true);
        dueRun(x, 9, 1);
        dueFactorOf(x, 0, "1/1000");
    }

    private static void firstRowNotKept() {
        says("check: 0; else 1 more than the first row that they do not keep, also those not in the table");
        PlanBounds x = planOf(1);
        due("no rows", x::check, 0);
        addRows(x, 12);
        due("all", x::check, 0);
        for (int r = 11; r >= 0; r--) {
            dueRight(x, r, 1, true);
            due("check", x::check, r + 1);
        }
        dueRun(x, 9, 1);
        due("in the table", x::check, 1);
        for (int r = 0; r < 12; r++) {
            dueRight(x, r, 0, true);
            due("check", x::check, r < 11 ? r + 2 : 0);
        }
    }

    private static void checkByFractions() {
        says("Whether the amounts keep all rows: amounts are fractions");
        PlanBounds x = planOf(2);
        add(x, 2, 1, 1000, 0);
        add(x, 2, 1, 0, 999);
        dueRun(x, 9, 0);
        add(x, 0, 2, 1000, 999);
        add(x, 1, 2, 1000, 999);
        add(x, 2, 2, 1000, 999);
        due("just 2", x::check, 0);
        add(x, 1, 0, 1000, -1000);
        due("a little less than 0", x::check, 0);
        add(x, 0, 0, 1000, -1000);
        due("is below 0", x::check, 7);
        dueRight(x, 6, -1, true);
        due("but not below -1", x::check, 0);
        add(x, 1, -1, 1000, -1000);
        due("nor as low as -1", x::check, 8);
        dueRight(x, 7, 1000000, true);
        due("far below", x::check, 0);
        add(x, 0, 1000000, 1000, 1000);
        due("far above", x::check, 9);
    }

    private static void stepsInAll() {
        says("How many steps were done in all");
        PlanBounds x = planOf(1);
        due("none", x::steps, 0);
        add(x, 0, 1, 1);
        dueRun(x, 0, 2);
        due("none by 0", x::steps, 0);
        for (int turn = 1; turn <= 100; turn++) {
            dueRight(x, 0, turn % 2 == 1 ? 1 : -1, true);
            dueRun(x, 1, 0);
            due("one more by each", x::steps, turn);
        }
        dueRun(x, 1000, 0);
        due("none by a run that needs none", x::steps, 100);
    }

    private static void counts() {
        says("0 columns, 1 rows, 2 lines in the table, 3 D, 4 weeks; 5 and more: how many rows week what - 5 has");
        PlanBounds x = new PlanBounds(60);
        for (int j = 0; j < 12; j++) {
            x.column(0);
        }
        for (int r = 0; r < 6; r++) {
            x.row(2, 59, 0);
            x.row(1, r, 0);
        }
        int[] before = {12, 12, 0, 1, 60, 1, 1, 1, 1, 1, 1, 0};
        for (int what = 0; what < before.length; what++) {
            dueCount(x, what, before[what]);
        }
        dueCount(x, 63, 0);
        dueCount(x, 64, 6);
        dueRun(x, 0, 0);
        dueCount(x, 2, 18);
        dueCount(x, 64, 6);
    }

    private static void countOfNone() {
        says("NONE for another what");
        due("NONE", () -> PlanBounds.NONE, -1);
        PlanBounds x = new PlanBounds(60);
        for (int what : new int[] {-1, -5, 65, 66, 256, Integer.MIN_VALUE, Integer.MIN_VALUE + 4, Integer.MAX_VALUE}) {
            dueCount(x, what, PlanBounds.NONE);
        }
        dueCount(x, 64, 0);
        PlanBounds y = new PlanBounds(1);
        dueCount(y, 5, 0);
        dueCount(y, 6, PlanBounds.NONE);
    }

    private static void terms() {
        manyCalls();
        atMostTwelveColumns();
        amountsAreAtLeastZero();
        costsAreInside();
        atMostTwelveRows();
        rightSidesAreInside();
        factorsAreInside();
        atLeast();
        atMost();
        justThat();
        linesStandBehindAllColumns();
        kindTwoMakesBoth();
        atFirst();
        nothingAtAll();
        leavesIfBelowZero();
        leastNumberLeaves();
        entersByNumberAboveZero();
        leastQuotientEnters();
        changesPlaces();
        leastTerms();
        noSuchPlace();
        theFirstOfSeveral();
    }

    private static void tooGreat() {
        startThatComes();
        numberThatComes();
        startByStep();
        numberByStep();
        costByStep();
        greatestD();
        whatIsTooGreatIsNotDone();
    }

    private static void promises() {
        nearestWeeks();
        noneAtFirst();
        columnAfterRun();
        rowArguments();
        rowAfterRun();
        factorOfRowInTable();
        cutIsARow();
        cutArguments();
        rightOutsideTheTable();
        rightInTheTable();
        rightTooGreatInside();
        rightTooGreatOutside();
        rightTooGreatCost();
        stepsAreTold();
        stepsAreSpent();
        contradiction();
        noneIsBelowZero();
        lineThatCannotCome();
        stepThatCannotBeDone();
        noSuchPart();
        dualOfLines();
        dualByKinds();
        proofOfContradiction();
        noProof();
        noProofAfterTooGreat();
        firstRowNotKept();
        checkByFractions();
        stepsInAll();
        counts();
        countOfNone();
    }

    public static void main(String[] args) {
        terms();
        tooGreat();
        promises();
        System.out.println(sentences + " tests by sentence, " + wrong + " answers are not as due");
        if (wrong != 0) {
            System.exit(1);
        }
    }
}
