import java.math.BigInteger;
import java.util.ArrayList;
import java.util.List;
import java.util.Random;

/**
 * Runs of calls drawn from fixed seeds, each answer held against a model that keeps no table: it
 * knows only which variables are outside, and works out every number anew by fractions.
 */
public final class PlanBoundsModel {
    private static final BigInteger MOST = BigInteger.valueOf(1000000000);
    private static int wrong = 0;
    private static int runNumber = 0;
    private static final StringBuilder calls = new StringBuilder();
    private static final String[] NAMES = {
        "run 0", "run 1", "run 2", "run 3 by a line", "run 3 by a step", "right false", "right true in the table",
        "kind 2 outside by its second line", "a column would leave", "D above 1000000", "ties among those that enter",
        "run 1 with no step left", "line of kind 2 cannot come"
    };
    private static final int RUNS = 3000;
    private static final int[] seen = new int[NAMES.length];

    static final class Fraction {
        static final Fraction ZERO = new Fraction(BigInteger.ZERO, BigInteger.ONE);
        final BigInteger upper;
        final BigInteger lower;

        Fraction(BigInteger upper, BigInteger lower) {
            BigInteger g = upper.gcd(lower);
            if (lower.signum() < 0) {
                g = g.negate();
            }
            this.upper = upper.divide(g);
            this.lower = lower.divide(g);
        }

        static Fraction of(long v) {
            return new Fraction(BigInteger.valueOf(v), BigInteger.ONE);
        }

        Fraction plus(Fraction o) {
            return new Fraction(upper.multiply(o.lower).add(o.upper.multiply(lower)), lower.multiply(o.lower));
        }

        Fraction minus(Fraction o) {
            return plus(o.times(of(-1)));
        }

        Fraction times(Fraction o) {
            return new Fraction(upper.multiply(o.upper), lower.multiply(o.lower));
        }

        Fraction by(Fraction o) {
            return new Fraction(upper.multiply(o.lower), lower.multiply(o.upper));
        }

        int sign() {
            return upper.signum();
        }

        int compare(Fraction o) {
            return minus(o).sign();
        }
    }

    /** A variable, or the cost, told by columns (0 .. n-1) and, last, by a plain number. */
    static final class Model {
        final int weeks;
        final List<Long> costs = new ArrayList<>();
        final List<int[]> heads = new ArrayList<>();
        final List<Long> rights = new ArrayList<>();
        final List<int[]> factors = new ArrayList<>();
        final List<int[]> lines = new ArrayList<>();
        List<Integer> outside = new ArrayList<>();
        int rowsIn = 0;
        int steps = 0;
        int latest = -1;
        boolean ran = false;
        boolean stoppedByLine = false;
        /** Each variable's and, last, the cost's numbers by those outside, then its start, all over 1. */
        Fraction[][] told;
        Fraction d;

        Model(int weeks) {
            this.weeks = weeks < 1 ? 1 : weeks > 60 ? 60 : weeks;
            work();
        }

        int n() {
            return costs.size();
        }

        Fraction[] byColumns(int variable) {
            Fraction[] v = new Fraction[n() + 1];
            for (int j = 0; j <= n(); j++) {
                v[j] = Fraction.ZERO;
            }
            if (variable < n()) {
                v[variable] = Fraction.of(1);
                return v;
            }
            if (variable == n() + lines.size()) {
                for (int j = 0; j < n(); j++) {
                    v[j] = Fraction.of(costs.get(j));
                }
                return v;
            }
            int[] line = lines.get(variable - n());
            for (int j = 0; j < n(); j++) {
                v[j] = Fraction.of((long) line[1] * factors.get(line[0])[j]);
            }
            v[n()] = Fraction.of(-line[1] * rights.get(line[0]));
            return v;
        }

        /** Solves for the columns by those outside; the determinant's size is D. */
        void work() {
            int n = n();
            Fraction[][] m = new Fraction[n][2 * n + 1];
            for (int i = 0; i < n; i++) {
                Fraction[] o = byColumns(outside.get(i));
                for (int j = 0; j < n; j++) {
                    m[i][j] = o[j];
                    m[i][n + j] = Fraction.of(i == j ? 1 : 0);
                }
                m[i][2 * n] = o[n].times(Fraction.of(-1));
            }
            d = Fraction.of(1);
            for (int c = 0; c < n; c++) {
                int r = c;
                while (m[r][c].sign() == 0) {
                    r++;
                }
                Fraction[] t = m[r];
                m[r] = m[c];
                m[c] = t;
                d = d.times(m[c][c]);
                Fraction p = m[c][c];
                for (int k = 0; k <= 2 * n; k++) {
                    m[c][k] = m[c][k].by(p);
                }
                for (int i = 0; i < n; i++) {
                    Fraction f = m[i][c];
                    if (i != c && f.sign() != 0) {
                        for (int k = 0; k <= 2 * n; k++) {
                            m[i][k] = m[i][k].minus(f.times(m[c][k]));
                        }
                    }
                }
            }
            if (d.sign() < 0) {
                d = d.times(Fraction.of(-1));
            }
            told = new Fraction[n + lines.size() + 1][];
            for (int v = 0; v < told.length; v++) {
                Fraction[] o = byColumns(v);
                told[v] = new Fraction[n + 1];
                for (int k = 0; k <= n; k++) {
                    Fraction sum = k == n ? o[n] : Fraction.ZERO;
                    for (int j = 0; j < n; j++) {
                        sum = sum.plus(o[j].times(m[j][n + k]));
                    }
                    told[v][k] = sum;
                }
            }
        }

        boolean fits() {
            for (int v = 0; v < told.length; v++) {
                for (int k = 0; !outside.contains(v) && k < told[v].length; k++) {
                    Fraction whole = told[v][k].times(d);
                    if (!whole.lower.equals(BigInteger.ONE)) {
                        throw new AssertionError("the model found a number that is not whole");
                    }
                    if (whole.upper.abs().compareTo(MOST) > 0) {
                        return false;
                    }
                }
            }
            return d.upper.compareTo(MOST) <= 0;
        }

        Fraction[] cost() {
            return told[told.length - 1];
        }

        int leaving() {
            for (int v = 0; v < n() + lines.size(); v++) {
                if (!outside.contains(v) && told[v][n()].sign() < 0) {
                    return v;
                }
            }
            return -1;
        }

        int entering(int leaving) {
            int best = -1;
            for (int k = 0; k < n(); k++) {
                if (told[leaving][k].sign() <= 0) {
                    continue;
                }
                int c = best < 0 ? -1 : cost()[k].by(told[leaving][k]).compare(cost()[best].by(told[leaving][best]));
                if (best >= 0 && c == 0) {
                    seen[10]++;
                }
                if (c < 0 || c == 0 && outside.get(k) < outside.get(best)) {
                    best = k;
                }
            }
            return best;
        }

        boolean bring() {
            while (rowsIn < heads.size()) {
                int before = lines.size();
                int kind = heads.get(rowsIn)[0];
                if (kind != 1) {
                    lines.add(new int[] {rowsIn, 1});
                }
                if (kind != 0) {
                    lines.add(new int[] {rowsIn, -1});
                }
                work();
                if (!fits()) {
                    while (lines.size() > before) {
                        lines.remove(lines.size() - 1);
                    }
                    work();
                    if (kind == 2) {
                        seen[12]++;
                    }
                    return false;
                }
                rowsIn++;
            }
            return true;
        }

        int run(int most) {
            ran = true;
            stoppedByLine = !bring();
            latest = stoppedByLine ? 3 : go(most);
            return latest;
        }

        int go(int most) {
            for (int done = 0;; done++) {
                int l = leaving();
                if (l < 0) {
                    return 0;
                }
                int e = entering(l);
                if (e < 0) {
                    if (done == most) {
                        seen[11]++;
                    }
                    return 1;
                }
                if (done == most) {
                    return 2;
                }
                List<Integer> before = new ArrayList<>(outside);
                outside.set(e, l);
                work();
                if (!fits()) {
                    outside = before;
                    work();
                    return 3;
                }
                steps++;
            }
        }

        boolean right(int row, long v) {
            long before = rights.get(row);
            rights.set(row, v);
            work();
            if (!fits()) {
                rights.set(row, before);
                work();
                return false;
            }
            latest = -1;
            return true;
        }

        Fraction share(int column) {
            return outside.contains(column) ? Fraction.ZERO : told[column][n()];
        }

        Fraction dual(int row) {
            Fraction sum = Fraction.ZERO;
            for (int l = 0; l < lines.size(); l++) {
                int k = outside.indexOf(n() + l);
                if (lines.get(l)[0] == row && k >= 0) {
                    sum = sum.plus(cost()[k].times(Fraction.of(lines.get(l)[1])));
                }
            }
            return sum;
        }

        Fraction factorOf(int row) {
            int leaving = leaving();
            Fraction sum = Fraction.ZERO;
            for (int l = 0; l < lines.size(); l++) {
                int k = outside.indexOf(n() + l);
                int s = lines.get(l)[1];
                if (lines.get(l)[0] == row && n() + l == leaving) {
                    sum = sum.plus(Fraction.of(s));
                } else if (lines.get(l)[0] == row && k >= 0) {
                    sum = sum.minus(told[leaving][k].times(Fraction.of(s)));
                }
            }
            return sum;
        }

        int check() {
            for (int r = 0; r < heads.size(); r++) {
                Fraction sum = Fraction.of(-rights.get(r));
                for (int j = 0; j < n(); j++) {
                    sum = sum.plus(share(j).times(Fraction.of(factors.get(r)[j])));
                }
                int kind = heads.get(r)[0];
                if (kind != 1 && sum.sign() < 0 || kind != 0 && sum.sign() > 0) {
                    return r + 1;
                }
            }
            return 0;
        }

        int count(int what) {
            switch (what) {
                case 0: return n();
                case 1: return heads.size();
                case 2: return lines.size();
                case 3: return d.upper.intValueExact();
                case 4: return weeks;
                default:
            }
            if (what < 0 || what - 5 >= weeks) {
                return PlanBounds.NONE;
            }
            int found = 0;
            for (int[] head : heads) {
                found += head[1] == what - 5 ? 1 : 0;
            }
            return found;
        }
    }

    private static void due(String call, Object got, Object want) {
        if (!String.valueOf(got).equals(String.valueOf(want))) {
            wrong++;
            if (wrong <= 20) {
                System.out.println("run " + runNumber + ": " + calls + call + " answered " + got + ", due is " + want);
            }
        }
    }

    private static void dueFraction(String call, long upper, long lower, Fraction want) {
        due(call, upper + "/" + lower, want.upper + "/" + want.lower);
    }

    private static void look(PlanBounds x, Model m) {
        dueFraction("value", x.value(0), x.value(1), m.cost()[m.n()]);
        for (int j = 0; j < m.n(); j++) {
            dueFraction("share " + j, x.share(j, 0), x.share(j, 1), m.share(j));
        }
        for (int r = 0; r < m.heads.size(); r++) {
            dueFraction("dual " + r, x.dual(r, 0), x.dual(r, 1), m.dual(r));
            if (m.latest == 1) {
                dueFraction("factorOf " + r, x.factorOf(r, 0), x.factorOf(r, 1), m.factorOf(r));
            } else {
                String got = "nothing thrown";
                try {
                    x.factorOf(r, 0);
                } catch (IllegalStateException e) {
                    got = "IllegalState";
                }
                due("factorOf " + r, got, "IllegalState");
            }
        }
        due("check", x.check(), m.check());
        due("steps", x.steps(), m.steps);
        for (int what = -2; what < 5 + m.weeks + 2; what++) {
            due("count " + what, x.count(what), m.count(what));
        }
        if (m.d.upper.compareTo(BigInteger.valueOf(1000000)) > 0) {
            seen[9]++;
        }
        for (int o : m.outside) {
            if (o >= m.n() && m.heads.get(m.lines.get(o - m.n())[0])[0] == 2 && m.lines.get(o - m.n())[1] < 0) {
                seen[7]++;
            }
        }
    }

    /** The proofs themselves, by the program's own answers: no model is asked. */
    private static void prove(PlanBounds x, Model m) {
        boolean all = m.rowsIn == m.heads.size();
        if (m.latest == 0) {
            Fraction bound = new Fraction(BigInteger.valueOf(x.value(0)), BigInteger.valueOf(x.value(1)));
            Fraction byRows = Fraction.ZERO;
            Fraction byColumns = Fraction.ZERO;
            for (int r = 0; r < m.heads.size(); r++) {
                byRows = byRows.plus(dual(x, r).times(Fraction.of(m.rights.get(r))));
            }
            for (int j = 0; j < m.n(); j++) {
                Fraction share = new Fraction(BigInteger.valueOf(x.share(j, 0)), BigInteger.valueOf(x.share(j, 1)));
                due("share is at least 0", share.sign() >= 0, true);
                byColumns = byColumns.plus(share.times(Fraction.of(m.costs.get(j))));
                Fraction sum = Fraction.ZERO;
                for (int r = 0; r < m.heads.size(); r++) {
                    sum = sum.plus(dual(x, r).times(Fraction.of(m.factors.get(r)[j])));
                }
                due("duals stay under the cost", sum.compare(Fraction.of(m.costs.get(j))) <= 0, true);
            }
            due("bound by rows", bound.compare(byRows), 0);
            due("bound by columns", bound.compare(byColumns), 0);
            due("all rows are kept", !all || x.check() == 0, true);
        }
        if (m.latest == 1) {
            Fraction byRights = Fraction.ZERO;
            for (int r = 0; r < m.heads.size(); r++) {
                Fraction f = factorOf(x, r);
                int kind = m.heads.get(r)[0];
                due("sign of factorOf", kind == 2 || (kind == 0 ? f.sign() >= 0 : f.sign() <= 0), true);
                byRights = byRights.plus(f.times(Fraction.of(m.rights.get(r))));
            }
            due("a contradiction's right side is above 0", byRights.sign(), 1);
            for (int j = 0; j < m.n(); j++) {
                Fraction sum = Fraction.ZERO;
                for (int r = 0; r < m.heads.size(); r++) {
                    sum = sum.plus(factorOf(x, r).times(Fraction.of(m.factors.get(r)[j])));
                }
                due("a contradiction's factors are at most 0", sum.sign() <= 0, true);
            }
        }
    }

    private static Fraction dual(PlanBounds x, int r) {
        return new Fraction(BigInteger.valueOf(x.dual(r, 0)), BigInteger.valueOf(x.dual(r, 1)));
    }

    private static Fraction factorOf(PlanBounds x, int r) {
        return new Fraction(BigInteger.valueOf(x.factorOf(r, 0)), BigInteger.valueOf(x.factorOf(r, 1)));
    }

    private static void addRow(PlanBounds x, Model m, Random random, int factorSize, int rightSize) {
        int kind = random.nextInt(3);
        int week = random.nextInt(m.weeks);
        long right = random.nextInt(2 * rightSize + 1) - rightSize;
        calls.append("row(").append(kind).append(", ").append(week).append(", ").append(right).append(") ");
        due("row", x.row(kind, week, right), m.heads.size());
        m.heads.add(new int[] {kind, week});
        m.rights.add(right);
        m.factors.add(new int[12]);
        for (int j = 0; j < m.n(); j++) {
            if (random.nextInt(4) > 0) {
                addFactor(x, m, m.heads.size() - 1, j, random.nextInt(2 * factorSize + 1) - factorSize);
            }
        }
    }

    private static void addFactor(PlanBounds x, Model m, int row, int column, int v) {
        calls.append("factor(").append(row).append(", ").append(column).append(", ").append(v).append(") ");
        due("factor", x.factor(row, column, v), m.factors.get(row)[column]);
        m.factors.get(row)[column] = v;
    }

    private static void addCut(PlanBounds x, Model m, int a, int b) {
        calls.append("cut(").append(a).append(", ").append(b).append(") ");
        due("cut", x.cut(a, b), m.heads.size());
        m.heads.add(new int[] {1, 0});
        m.rights.add(1L);
        int[] f = new int[12];
        f[a] = 1;
        f[b] = 1;
        m.factors.add(f);
    }

    private static void doRun(PlanBounds x, Model m, int steps) {
        calls.append("run(").append(steps).append(") ");
        int before = x.steps();
        int want = m.run(steps);
        due("run", x.run(steps), want);
        if (want == 3) {
            seen[m.stoppedByLine ? 3 : 4]++;
            due("no step after a line that cannot come", !m.stoppedByLine || x.steps() == before, true);
        } else {
            seen[want]++;
        }
        if (want == 1 && m.leaving() < m.n()) {
            seen[8]++;
        }
    }

    private static void doRight(PlanBounds x, Model m, int row, long v) {
        calls.append("right(").append(row).append(", ").append(v).append(") ");
        boolean want = m.right(row, v);
        due("right", x.right(row, v), want);
        if (!want) {
            seen[5]++;
        } else if (row < m.rowsIn) {
            seen[6]++;
        }
    }

    private static void oneRun(long seed) {
        Random random = new Random(seed);
        calls.setLength(0);
        int[] factorSizes = {1, 2, 5, 30, 300, 1000};
        int[] rightSizes = {1, 10, 1000, 1000000};
        int factorSize = factorSizes[random.nextInt(factorSizes.length)];
        int rightSize = rightSizes[random.nextInt(rightSizes.length)];
        int costSize = random.nextInt(3) == 0 ? 2 : 1001;
        int weeks = random.nextInt(6) - 1;
        PlanBounds x = new PlanBounds(weeks);
        Model m = new Model(weeks);
        boolean large = random.nextInt(40) == 0;
        int columns = large ? 12 : random.nextInt(8);
        for (int j = 0; j < columns; j++) {
            long cost = random.nextInt(costSize);
            calls.append("column(").append(cost).append(") ");
            due("column", x.column(cost), j);
            m.costs.add(cost);
            m.outside.add(j);
        }
        m.work();
        for (int i = large ? 9 : random.nextInt(5); i > 0; i--) {
            addRow(x, m, random, factorSize, rightSize);
        }
        for (int turn = 0; turn < 14; turn++) {
            int rows = m.heads.size();
            switch (random.nextInt(8)) {
                case 0:
                    if (rows < 12) {
                        addRow(x, m, random, factorSize, rightSize);
                    }
                    break;
                case 1:
                    if (rows < 12 && columns > 1) {
                        int a = random.nextInt(columns);
                        addCut(x, m, a, (a + 1 + random.nextInt(columns - 1)) % columns);
                    }
                    break;
                case 2:
                    if (m.rowsIn < rows && columns > 0) {
                        int row = m.rowsIn + random.nextInt(rows - m.rowsIn);
                        addFactor(x, m, row, random.nextInt(columns), random.nextInt(2001) - 1000);
                    }
                    break;
                case 3:
                case 4:
                    if (rows > 0) {
                        int size = random.nextInt(3) == 0 ? 1000000 : rightSize;
                        doRight(x, m, random.nextInt(rows), random.nextInt(2 * size + 1) - size);
                    }
                    break;
                default:
                    int[] many = {0, 1, 2, 3, 50, 1000};
                    doRun(x, m, many[random.nextInt(many.length)]);
            }
            look(x, m);
            prove(x, m);
        }
    }

    public static void main(String[] args) {
        int runs = args.length > 0 ? Integer.parseInt(args[0]) : RUNS;
        for (runNumber = 0; runNumber < runs; runNumber++) {
            oneRun(runNumber);
        }
        // A model that never meets a case proves nothing about it; fewer runs than usual may miss a rare one.
        for (int i = 0; i < seen.length; i++) {
            System.out.println("seen " + seen[i] + " times: " + NAMES[i]);
            if (seen[i] == 0 && runs >= RUNS) {
                wrong++;
            }
        }
        System.out.println(wrong == 0 ? "all answers are as due" : wrong + " answers are not as due");
        if (wrong != 0) {
            System.exit(1);
        }
    }
}
