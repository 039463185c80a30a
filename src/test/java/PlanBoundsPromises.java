/** Each promise of the document by its number: ordinary inputs, named edges, wrong inputs. */
public final class PlanBoundsPromises {
    private static final String INDEX = "IndexOutOfBoundsException";
    private static final String STATE = "IllegalStateException";
    private static final String ARGUMENT = "IllegalArgumentException";
    private static int wrong = 0;

    private interface Call {
        Object go();
    }

    private static String answer(Call call) {
        try {
            return String.valueOf(call.go());
        } catch (RuntimeException e) {
            return e.getClass().getSimpleName();
        }
    }

    private static void due(String what, Call call, Object want) {
        String got = answer(call);
        if (!got.equals(String.valueOf(want))) {
            wrong++;
            System.out.println(what + " answered " + got + ", due is " + want);
        }
    }

    private static void dueFraction(String what, Call upper, Call lower, long wantUpper, long wantLower) {
        due(what + " upper", upper, wantUpper);
        due(what + " lower", lower, wantLower);
    }

    private static void dueValue(String what, PlanBounds x, long upper, long lower) {
        dueFraction(what + " value", () -> x.value(0), () -> x.value(1), upper, lower);
    }

    private static void dueShare(String what, PlanBounds x, int column, long upper, long lower) {
        dueFraction(what + " share " + column, () -> x.share(column, 0), () -> x.share(column, 1), upper, lower);
    }

    private static void dueDual(String what, PlanBounds x, int row, long upper, long lower) {
        dueFraction(what + " dual " + row, () -> x.dual(row, 0), () -> x.dual(row, 1), upper, lower);
    }

    private static void dueFactorOf(String what, PlanBounds x, int row, long upper, long lower) {
        dueFraction(what + " factorOf " + row, () -> x.factorOf(row, 0), () -> x.factorOf(row, 1), upper, lower);
    }

    private static PlanBounds withColumns(long... costs) {
        PlanBounds x = new PlanBounds(60);
        for (long cost : costs) {
            x.column(cost);
        }
        return x;
    }

    private static int addRow(PlanBounds x, int kind, long right, int... factors) {
        int row = x.row(kind, 0, right);
        for (int j = 0; j < factors.length; j++) {
            x.factor(row, j, factors[j]);
        }
        return row;
    }

    private static void promise1() {
        int[][] cases = {
            {1, 1}, {2, 2}, {59, 59}, {60, 60}, {61, 60}, {0, 1}, {-1, 1},
            {Integer.MIN_VALUE, 1}, {Integer.MAX_VALUE, 60}
        };
        for (int[] c : cases) {
            PlanBounds x = new PlanBounds(c[0]);
            due("1 weeks of " + c[0], () -> x.count(4), c[1]);
            due("1 last week of " + c[0], () -> x.row(0, c[1] - 1, 0), 0);
            due("1 week behind the last of " + c[0], () -> x.row(0, c[1], 0), ARGUMENT);
        }
        PlanBounds x = new PlanBounds(3);
        due("1 columns", () -> x.count(0), 0);
        due("1 rows", () -> x.count(1), 0);
        due("1 lines", () -> x.count(2), 0);
        due("1 D", () -> x.count(3), 1);
        due("1 steps", x::steps, 0);
        due("1 check", x::check, 0);
        dueValue("1", x, 0, 1);
        due("1 share", () -> x.share(0, 0), INDEX);
        due("1 dual", () -> x.dual(0, 0), INDEX);
        due("1 factorOf", () -> x.factorOf(0, 0), INDEX);
        due("1 run", () -> x.run(1000), 0);
        dueValue("1 after a run", x, 0, 1);
    }

    private static void promise2() {
        PlanBounds x = new PlanBounds(1);
        due("2 below 0", () -> x.column(-1), ARGUMENT);
        due("2 above 1000", () -> x.column(1001), ARGUMENT);
        due("2 far below", () -> x.column(Long.MIN_VALUE), ARGUMENT);
        due("2 as int it would be 0", () -> x.column(1L << 32), ARGUMENT);
        due("2 none made", () -> x.count(0), 0);
        for (int j = 0; j < 12; j++) {
            int at = j;
            due("2 column " + j, () -> x.column(at % 2 == 0 ? 0 : 1000), j);
        }
        due("2 a thirteenth", () -> x.column(5), STATE);
        due("2 a thirteenth with a wrong cost", () -> x.column(-5), STATE);
        due("2 twelve", () -> x.count(0), 12);

        PlanBounds y = withColumns(4);
        due("2 a run that throws", () -> y.run(-1), ARGUMENT);
        due("2 after a run that throws", () -> y.column(5), 1);
        due("2 run", () -> y.run(0), 0);
        due("2 after a run", () -> y.column(5), STATE);
        due("2 after a run, wrong cost", () -> y.column(1001), STATE);
        due("2 two", () -> y.count(0), 2);

        PlanBounds z = new PlanBounds(1);
        z.row(0, 0, 3);
        due("2 behind a row", () -> z.column(7), 0);
        due("2 its factor in an older row", () -> z.factor(0, 0, 2), 0);
        due("2 run with it", () -> z.run(5), 0);
        dueValue("2 its cost", z, 21, 2);
    }

    private static void promise3() {
        PlanBounds x = new PlanBounds(2);
        x.column(1);
        due("3 kind -1", () -> x.row(-1, 0, 0), ARGUMENT);
        due("3 kind 3", () -> x.row(3, 0, 0), ARGUMENT);
        due("3 week -1", () -> x.row(0, -1, 0), ARGUMENT);
        due("3 week 2", () -> x.row(0, 2, 0), ARGUMENT);
        due("3 right above", () -> x.row(0, 0, 1000001), ARGUMENT);
        due("3 right below", () -> x.row(0, 0, -1000001), ARGUMENT);
        due("3 right far", () -> x.row(0, 0, Long.MAX_VALUE), ARGUMENT);
        due("3 right as int 0", () -> x.row(0, 0, 1L << 32), ARGUMENT);
        due("3 none made", () -> x.count(1), 0);
        long[] rights = {1000000, -1000000, 0, 5};
        for (int r = 0; r < 12; r++) {
            int at = r;
            due("3 row " + r, () -> x.row(at % 3, at % 2, rights[at % 4]), r);
            due("3 factor at first", () -> x.factor(at, 0, 0), 0);
        }
        due("3 a thirteenth", () -> x.row(0, 0, 0), STATE);
        due("3 a thirteenth, all wrong", () -> x.row(9, 9, Long.MIN_VALUE), STATE);
        due("3 twelve", () -> x.count(1), 12);
        due("3 kinds and rights stand", x::check, 1);

        PlanBounds y = withColumns(1);
        due("3 row", () -> y.row(0, 0, 2), 0);
        due("3 run", () -> y.run(5), 1);
        due("3 row behind a run", () -> y.row(1, 59, -7), 1);
        due("3 it is not in the table yet", () -> y.count(2), 1);
    }

    private static void promise4() {
        PlanBounds x = withColumns(1, 1);
        x.row(0, 0, 4);
        due("4 row -1", () -> x.factor(-1, 0, 1), INDEX);
        due("4 row 1", () -> x.factor(1, 0, 1), INDEX);
        due("4 column -1", () -> x.factor(0, -1, 1), INDEX);
        due("4 column 2", () -> x.factor(0, 2, 1), INDEX);
        due("4 column 2, wrong factor", () -> x.factor(0, 2, 5000), INDEX);
        due("4 above", () -> x.factor(0, 0, 1001), ARGUMENT);
        due("4 below", () -> x.factor(0, 0, -1001), ARGUMENT);
        due("4 far", () -> x.factor(0, 0, Integer.MIN_VALUE), ARGUMENT);
        due("4 first", () -> x.factor(0, 0, 1000), 0);
        due("4 second", () -> x.factor(0, 0, -1000), 1000);
        due("4 third", () -> x.factor(0, 0, 2), -1000);
        due("4 the other one", () -> x.factor(0, 1, 0), 0);
        due("4 run", () -> x.run(9), 0);
        dueShare("4", x, 0, 2, 1);
        due("4 in the table", () -> x.factor(0, 0, 1), STATE);
        due("4 in the table, wrong factor", () -> x.factor(0, 0, 1001), STATE);
        due("4 in the table, no such column", () -> x.factor(0, 2, 1), INDEX);
        x.row(1, 0, 1);
        due("4 a later row", () -> x.factor(1, 0, 1), 0);
        due("4 a later row again", () -> x.factor(1, 0, 1), 1);
    }

    private static void promise5() {
        PlanBounds x = withColumns(1, 1, 1);
        due("5 a -1", () -> x.cut(-1, 0), INDEX);
        due("5 b 3", () -> x.cut(0, 3), INDEX);
        due("5 both 3", () -> x.cut(3, 3), INDEX);
        due("5 one column", () -> x.cut(1, 1), ARGUMENT);
        due("5 cut", () -> x.cut(2, 0), 0);
        due("5 rows of week 0", () -> x.count(5), 1);
        due("5 factor a", () -> x.factor(0, 2, 1), 1);
        due("5 factor b", () -> x.factor(0, 0, 1), 1);
        due("5 factor of the third", () -> x.factor(0, 1, 0), 0);
        addRow(x, 0, 3, 2, 1, 2);
        due("5 run", () -> x.run(99), 0);
        // One of the cut's columns gives 2 each, but at most 1 of both together.
        dueValue("5", x, 2, 1);
        dueDual("5", x, 0, -1, 1);
        for (int r = 2; r < 12; r++) {
            int at = r;
            due("5 cut " + r, () -> x.cut(0, 1), at);
        }
        due("5 a thirteenth", () -> x.cut(0, 1), STATE);
        due("5 a thirteenth of one column", () -> x.cut(0, 0), STATE);
        due("5 a thirteenth of none", () -> x.cut(0, 3), INDEX);

        PlanBounds y = withColumns(0, 0);
        y.cut(0, 1);
        addRow(y, 2, 1, 1, 1);
        due("5 just 1 is kept", () -> y.run(9), 0);
        due("5 2 is not", () -> y.right(1, 2), true);
        due("5 contradiction", () -> y.run(9), 1);
    }

    private static void promise6() {
        PlanBounds x = withColumns(3, 5);
        addRow(x, 0, 10, 2, 1);
        due("6 row -1", () -> x.right(-1, 0), INDEX);
        due("6 row 1", () -> x.right(1, 0), INDEX);
        due("6 row 1, wrong", () -> x.right(1, 2000000), INDEX);
        due("6 above", () -> x.right(0, 1000001), ARGUMENT);
        due("6 below", () -> x.right(0, -1000001), ARGUMENT);
        due("6 far", () -> x.right(0, 1L << 32), ARGUMENT);
        due("6 not in the table", () -> x.right(0, 7), true);
        due("6 run", () -> x.run(9), 0);
        dueValue("6", x, 21, 2);
        due("6 in the table", () -> x.right(0, 8), true);
        dueValue("6 before a run", x, 12, 1);
        dueShare("6 before a run", x, 0, 4, 1);
        due("6 no step", x::steps, 1);
        due("6 down", () -> x.right(0, -4), true);
        dueValue("6 below 0", x, -6, 1);
        dueShare("6 below 0", x, 0, -2, 1);
        due("6 run back", () -> x.run(9), 0);
        dueValue("6 back", x, 0, 1);
        due("6 steps", x::steps, 2);
        due("6 inside", () -> x.right(0, 1000000), true);
        due("6 inside, run", () -> x.run(9), 0);
        dueValue("6 inside", x, 1500000, 1);

        PlanBounds y = withColumns(1000);
        addRow(y, 2, 3, 7);
        addRow(y, 1, 1000000, 1);
        due("6 kinds 2 and 1", () -> y.run(9), 0);
        dueValue("6 kind 2", y, 3000, 7);
        due("6 just as great as may be", () -> y.right(0, 1000000), true);
        dueValue("6 kind 2 moved", y, 1000000000, 7);
        due("6 kind 1 inside", () -> y.right(1, 0), true);
        due("6 kind 1 is broken", y::check, 2);
        due("6 a right side that is not kept", () -> y.run(9), 1);
        due("6 back again", () -> y.right(1, 1000000), true);
        due("6 and kept", () -> y.run(0), 0);
    }

    private static void promise6False() {
        // D becomes 1000001, and with a right side of a million a start of D times it is too great.
        PlanBounds x = withColumns(1, 1);
        addRow(x, 0, 1, 1000, 1);
        addRow(x, 0, 1, -1, 1000);
        addRow(x, 0, 0, 1, 1);
        due("6 run", () -> x.run(9), 0);
        due("6 D", () -> x.count(3), 1000001);
        long before = x.value(0);
        due("6 too great", () -> x.right(2, 1000000), false);
        due("6 nothing changed", () -> x.value(0), before);
        due("6 the right side stands", x::check, 0);
        due("6 as great as fits", () -> x.right(2, -900), true);

        PlanBounds y = withColumns(1, 1);
        addRow(y, 0, 1, 1000, 1);
        addRow(y, 0, 1, -1, 1000);
        addRow(y, 0, 5, 0, 0);
        due("6 contradiction", () -> y.run(9), 1);
        dueFactorOf("6", y, 2, 1, 1);
        due("6 false", () -> y.right(2, 1000000), false);
        dueFactorOf("6 behind false", y, 2, 1, 1);
        due("6 true", () -> y.right(2, 6), true);
        due("6 behind true", () -> y.factorOf(2, 0), STATE);
    }

    private static void promise7() {
        PlanBounds x = withColumns(2, 3, 1);
        due("7 -1", () -> x.run(-1), ARGUMENT);
        due("7 1001", () -> x.run(1001), ARGUMENT);
        due("7 least", () -> x.run(Integer.MIN_VALUE), ARGUMENT);
        addRow(x, 0, 10, 1, 2, 0);
        addRow(x, 0, 6, 0, 1, 1);
        due("7 throws: no line came", () -> x.run(1001), ARGUMENT);
        due("7 no line", () -> x.count(2), 0);
        due("7 0 steps", () -> x.run(0), 2);
        due("7 the lines came", () -> x.count(2), 2);
        due("7 1 step", () -> x.run(1), 2);
        due("7 another is enough", () -> x.run(1), 0);
        due("7 steps", x::steps, 2);
        dueValue("7", x, 16, 1);
        due("7 1000", () -> x.run(1000), 0);
        due("7 no more", x::steps, 2);

        PlanBounds y = withColumns(1);
        addRow(y, 1, -1, 1);
        due("7 a contradiction needs no step", () -> y.run(0), 1);
        addRow(y, 0, 5, 1);
        due("7 the first one stays it", () -> y.run(1000), 1);
        due("7 no steps", y::steps, 0);
        due("7 but the row came", () -> y.count(2), 2);
        due("7 mended", () -> y.right(0, 9), true);
        due("7 then steps", () -> y.run(1000), 0);
    }

    private static void promise7Choice() {
        // The same cost by the same number: the column with the least number enters.
        PlanBounds x = withColumns(4, 2, 1);
        addRow(x, 0, 6, 4, 2, 1);
        due("7 choice", () -> x.run(1), 0);
        dueShare("7 of several the least", x, 0, 3, 2);
        dueShare("7 not the other", x, 1, 0, 1);
        due("7 D", () -> x.count(3), 4);

        // The line with the least number leaves, not that with the least start.
        PlanBounds y = withColumns(1, 1);
        addRow(y, 0, 1, 1, 0);
        addRow(y, 0, 100, 0, 1);
        due("7 leave", () -> y.run(1), 2);
        dueShare("7 the first line left", y, 0, 1, 1);
        dueShare("7 the second did not", y, 1, 0, 1);
        due("7 in the end", () -> y.run(1), 0);

        // A column is before all lines: once its start is below 0 it leaves first.
        PlanBounds z = withColumns(1, 3);
        addRow(z, 0, 2, 1, 1);
        addRow(z, 1, -3, 1, -2);
        due("7 z", () -> z.run(1), 2);
        dueShare("7 z 1", z, 0, 2, 1);
        due("7 z", () -> z.run(1), 0);
        dueShare("7 z 2", z, 0, 1, 3);
        due("7 z", () -> z.right(1, -5), true);
        dueShare("7 z moved", z, 0, -1, 3);
        due("7 z ends", () -> z.run(1), 0);
        dueShare("7 z 3", z, 0, 0, 1);
        dueShare("7 z 3", z, 1, 5, 2);
    }

    private static void promise7TooGreat() {
        // 1000000 times 1000 is just as great as a number may be.
        PlanBounds x = withColumns(1000);
        addRow(x, 0, 1000000, 1);
        due("7 just as great", () -> x.run(9), 0);
        dueValue("7 just as great", x, 1000000000, 1);
        due("6 just as great below 0", () -> x.right(0, -1000000), true);
        dueValue("6 just as great below 0", x, -1000000000, 1);

        PlanBounds y = withColumns(1000);
        addRow(y, 0, 1000000, 2);
        addRow(y, 1, 1, 999);
        due("7 a contradiction of great numbers", () -> y.run(9), 1);
        PlanBounds z = withColumns(1000, 1);
        addRow(z, 0, 1000000, 1, 0);
        addRow(z, 0, 1, 0, 2);
        // The first step makes the cost 1000000000, the second would make it twice that and more.
        due("7 a step that is not done", () -> z.run(9), 3);
        due("7 one was", z::steps, 1);
        due("7 D stays", () -> z.count(3), 1);
        dueValue("7 the bound stays", z, 1000000000, 1);
        due("7 check", z::check, 2);
        due("7 again", () -> z.run(9), 3);
        due("7 0 steps are spent first", () -> z.run(0), 2);
        due("7 no proof", () -> z.factorOf(0, 0), STATE);
        due("7 a smaller right side", () -> z.right(0, 400000), true);
        due("7 then it fits", () -> z.run(9), 0);
        dueValue("7 then it fits", z, 800000001, 2);
        due("6 the cost alone is too great", () -> z.right(0, 500000), false);
        dueValue("6 the cost stays", z, 800000001, 2);
        due("6 one less", () -> z.right(0, 499999), true);
        dueValue("6 one less", z, 999998001, 2);
    }

    private static void promise7Lines() {
        PlanBounds x = withColumns(1, 1, 1);
        addRow(x, 0, 1, 1000, 1, 0);
        addRow(x, 0, 1, -1, 1000, 0);
        due("7 lines", () -> x.run(9), 0);
        due("7 D", () -> x.count(3), 1000001);
        addRow(x, 0, -1, 0, 0, 999);
        addRow(x, 2, 0, 0, 0, 1000);
        addRow(x, 0, 0, 0, 0, 1);
        due("7 a line cannot come", () -> x.run(9), 3);
        due("7 nor its row's others, nor those behind", () -> x.count(2), 3);
        due("7 the row may change", () -> x.factor(3, 2, 999), 1000);
        due("7 the one before may not", () -> x.factor(2, 2, 1), STATE);
        due("7 now all come", () -> x.run(9), 0);
        due("7 all lines", () -> x.count(2), 6);

        PlanBounds y = withColumns(1, 1, 1);
        addRow(y, 0, 1, 1000, 1, 0);
        addRow(y, 0, 1, -1, 1000, 0);
        due("7 y", () -> y.run(9), 0);
        addRow(y, 0, 1, 0, 0, 1);
        addRow(y, 0, 1000, 0, 0, 1);
        int before = y.steps();
        due("7 a start is too great", () -> y.run(9), 3);
        due("7 no step then", y::steps, before);
        due("7 the line before came", () -> y.count(2), 3);
        due("7 its right side may change", () -> y.right(3, 999), true);
        due("7 then it comes", () -> y.run(9), 0);
        due("7 with its line", () -> y.count(2), 4);
        dueShare("7 with its line", y, 2, 999, 1);
    }

    private static void promise8() {
        PlanBounds x = withColumns(6, 4);
        due("8 part -1", () -> x.value(-1), ARGUMENT);
        due("8 part 2", () -> x.value(2), ARGUMENT);
        dueValue("8 at first", x, 0, 1);
        addRow(x, 0, 5, 4, 0);
        dueValue("8 without a run", x, 0, 1);
        due("8 run", () -> x.run(9), 0);
        dueValue("8 in least terms", x, 15, 2);
        due("8 below 0", () -> x.right(0, -5), true);
        dueValue("8 below 0", x, -15, 2);
        due("8 0", () -> x.right(0, 0), true);
        dueValue("8 0", x, 0, 1);
    }

    private static void promise9() {
        PlanBounds x = withColumns(1, 9);
        due("9 column -1", () -> x.share(-1, 0), INDEX);
        due("9 column 2", () -> x.share(2, 0), INDEX);
        due("9 column 2, part 2", () -> x.share(2, 2), INDEX);
        due("9 part 2", () -> x.share(0, 2), ARGUMENT);
        due("9 part -1", () -> x.share(1, -1), ARGUMENT);
        dueShare("9 at first", x, 1, 0, 1);
        addRow(x, 0, 10, 4, 1);
        due("9 run", () -> x.run(9), 0);
        dueShare("9", x, 0, 5, 2);
        dueShare("9 outside", x, 1, 0, 1);
        due("9 right", () -> x.right(0, -6), true);
        dueShare("9 below 0", x, 0, -3, 2);
    }

    private static void promise10() {
        PlanBounds x = withColumns(6, 6);
        addRow(x, 0, 5, 4, 1);
        addRow(x, 1, 100, 1, 1);
        due("10 row -1", () -> x.dual(-1, 0), INDEX);
        due("10 row 2", () -> x.dual(2, 0), INDEX);
        due("10 row 2, part 2", () -> x.dual(2, 2), INDEX);
        due("10 part 2", () -> x.dual(0, 2), ARGUMENT);
        due("10 part -1", () -> x.dual(0, -1), ARGUMENT);
        dueDual("10 not in the table", x, 0, 0, 1);
        due("10 run", () -> x.run(9), 0);
        dueDual("10 kind 0", x, 0, 3, 2);
        dueDual("10 inside", x, 1, 0, 1);
        x.row(0, 0, 5);
        dueDual("10 a row that has not come", x, 2, 0, 1);

        PlanBounds y = withColumns(2, 5);
        addRow(y, 0, 10, 1, 1);
        addRow(y, 1, 4, 1, 0);
        due("10 kind 1 run", () -> y.run(9), 0);
        dueValue("10 kind 1", y, 38, 1);
        dueDual("10 of kind 1 below 0", y, 1, -3, 1);
        dueDual("10 of kind 0", y, 0, 5, 1);

        PlanBounds z = withColumns(2, 5);
        addRow(z, 0, 10, 1, 1);
        addRow(z, 2, 4, 1, 0);
        due("10 kind 2 run", () -> z.run(9), 0);
        dueValue("10 kind 2", z, 38, 1);
        dueDual("10 of kind 2 by its second line", z, 1, -3, 1);
        PlanBounds u = withColumns(3);
        addRow(u, 2, 4, 2);
        due("10 kind 2 first run", () -> u.run(9), 0);
        dueDual("10 of kind 2 by its first line", u, 0, 3, 2);
    }

    private static void promise11() {
        PlanBounds x = withColumns(1, 1);
        addRow(x, 0, 10, 2, 1);
        addRow(x, 1, 3, 1, 1);
        due("11 no run", () -> x.factorOf(0, 0), STATE);
        due("11 no run, no row", () -> x.factorOf(2, 0), INDEX);
        due("11 no run, no part", () -> x.factorOf(0, 2), STATE);
        due("11 steps spent", () -> x.run(0), 2);
        due("11 not 1", () -> x.factorOf(0, 0), STATE);
        due("11 contradiction", () -> x.run(9), 1);
        dueFactorOf("11 outside", x, 0, 1, 2);
        dueFactorOf("11 would leave, of kind 1", x, 1, -1, 1);
        due("11 row -1", () -> x.factorOf(-1, 0), INDEX);
        due("11 row 2, part 2", () -> x.factorOf(2, 2), INDEX);
        due("11 part 2", () -> x.factorOf(0, 2), ARGUMENT);
        due("11 part -1", () -> x.factorOf(0, -1), ARGUMENT);
        due("11 a new row", () -> x.row(0, 0, 5), 2);
        dueFactorOf("11 of a row that has not come", x, 2, 0, 1);
        due("11 a run that throws", () -> x.run(1001), ARGUMENT);
        dueFactorOf("11 still", x, 0, 1, 2);
        due("11 a right side that is none", () -> x.right(0, 1000001), ARGUMENT);
        dueFactorOf("11 still", x, 0, 1, 2);
        due("11 a right side of a row not in the table", () -> x.right(2, 4), true);
        due("11 a right side changed", () -> x.factorOf(0, 0), STATE);
        due("11 run again", () -> x.run(0), 1);
        dueFactorOf("11 again", x, 0, 1, 2);
        dueFactorOf("11 inside, but would not leave", x, 2, 0, 1);
        due("11 mended", () -> x.right(1, 5), true);
        due("11 the other stays broken", () -> x.run(9), 1);
        dueFactorOf("11 the other", x, 2, 1, 1);
        dueFactorOf("11 not the mended one", x, 1, 0, 1);
        due("11 all mended", () -> x.right(2, 0), true);
        due("11 kept", () -> x.run(9), 0);
        due("11 no contradiction", () -> x.factorOf(0, 0), STATE);
    }

    private static void promise11Kind2() {
        PlanBounds y = withColumns(1, 1);
        addRow(y, 2, 10, 2, 4);
        addRow(y, 0, 6, 1, 2);
        due("11 kind 2", () -> y.run(9), 1);
        // The first line of row 0 went in again, so its second one would leave: -10 and 2 times 6.
        dueFactorOf("11 the second line of kind 2 would leave", y, 0, -1, 1);
        dueFactorOf("11 kind 0 is outside", y, 1, 2, 1);

        PlanBounds z = withColumns(1, 1);
        addRow(z, 2, -3, 2, 0);
        due("11 by the second line", () -> z.run(9), 1);
        dueFactorOf("11 second line of kind 2", z, 0, -1, 1);
        PlanBounds u = withColumns(1, 1);
        addRow(u, 0, 6, 2, 0);
        due("11 u", () -> u.run(9), 0);
        due("11 u", () -> u.right(0, -6), true);
        due("11 a column leaves for its line", () -> u.run(9), 0);
        PlanBounds w = withColumns(1);
        addRow(w, 2, 6, 2);
        due("11 w", () -> w.run(9), 0);
        due("11 w", () -> w.right(0, -6), true);
        due("11 w a column leaves, then the second line would", () -> w.run(9), 1);
        due("11 w steps", w::steps, 2);
        dueFactorOf("11 w", w, 0, -1, 1);
    }

    private static void promise12() {
        PlanBounds x = withColumns(1, 1);
        due("12 none", x::check, 0);
        addRow(x, 0, 0, 1, 1);
        addRow(x, 1, 0, 1, 1);
        addRow(x, 2, 0, 1, 1);
        due("12 all just kept", x::check, 0);
        addRow(x, 1, -1, 1, 0);
        due("12 kind 1", x::check, 4);
        due("12 mended", () -> x.right(3, 2), true);
        addRow(x, 2, 1, 1, 0);
        due("12 kind 2 above", x::check, 5);
        due("12 below", () -> x.right(4, -1), true);
        due("12 kind 2 below", x::check, 5);
        due("12 the first one", () -> x.right(0, 1), true);
        due("12 the first one", x::check, 1);

        PlanBounds y = withColumns(3);
        addRow(y, 0, 1, 2);
        due("12 run", () -> y.run(9), 0);
        due("12 after it", y::check, 0);
        addRow(y, 0, 1000000, 1000);
        due("12 not in the table", y::check, 2);
        due("12 a half is kept", () -> y.right(1, 500), true);
        due("12 a half", y::check, 0);
        due("12 a little more", () -> y.right(1, 501), true);
        due("12 a little more", y::check, 2);
        due("12 the right side moved", () -> y.right(0, 3), true);
        due("12 the amounts with it", y::check, 0);
        due("12 below 0", () -> y.right(0, -1), true);
        due("12 only rows are looked at", () -> y.right(1, -500), true);
        due("12 an amount below 0 breaks no row", y::check, 0);
    }

    private static void promise13() {
        PlanBounds x = withColumns(1, 1);
        due("13", x::steps, 0);
        addRow(x, 0, 1, 1, 0);
        addRow(x, 0, 1, 0, 1);
        due("13", x::steps, 0);
        due("13 run", () -> x.run(1), 2);
        due("13", x::steps, 1);
        due("13 run", () -> x.run(9), 0);
        due("13 in all", x::steps, 2);
        due("13 right", () -> x.right(0, 5), true);
        due("13 run", () -> x.run(9), 0);
        due("13 none needed", x::steps, 2);
        due("13 throws", () -> x.run(-1), ARGUMENT);
        due("13 none by what throws", x::steps, 2);
    }

    private static void promise14() {
        PlanBounds x = new PlanBounds(3);
        x.column(5);
        x.row(0, 0, 3);
        x.row(2, 2, 9);
        x.row(1, 2, 9);
        x.factor(0, 0, 7);
        x.factor(1, 0, 21);
        int[] before = {-1, 1, 3, 0, 1, 3, 1, 0, 2, -1, -1};
        for (int what = -1; what < before.length - 1; what++) {
            int at = what;
            due("14 before a run: " + what, () -> x.count(at), before[what + 1]);
        }
        due("14 run", () -> x.run(9), 0);
        int[] after = {-1, 1, 3, 4, 7, 3, 1, 0, 2, -1, -1};
        for (int what = -1; what < after.length - 1; what++) {
            int at = what;
            due("14 after a run: " + what, () -> x.count(at), after[what + 1]);
        }
        due("14 least", () -> x.count(Integer.MIN_VALUE), PlanBounds.NONE);
        due("14 greatest", () -> x.count(Integer.MAX_VALUE), PlanBounds.NONE);
        PlanBounds y = new PlanBounds(60);
        due("14 the last week", () -> y.count(64), 0);
        due("14 behind it", () -> y.count(65), -1);
        due("14 NONE", () -> PlanBounds.NONE, -1);
    }

    public static void main(String[] args) {
        promise1();
        promise2();
        promise3();
        promise4();
        promise5();
        promise6();
        promise6False();
        promise7();
        promise7Choice();
        promise7TooGreat();
        promise7Lines();
        promise8();
        promise9();
        promise10();
        promise11();
        promise11Kind2();
        promise12();
        promise13();
        promise14();
        System.out.println(wrong == 0 ? "all answers are as due" : wrong + " answers are not as due");
        if (wrong != 0) {
            System.exit(1);
        }
    }
}
