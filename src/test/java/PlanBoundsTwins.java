import java.util.ArrayList;
import java.util.List;
import java.util.Map;
import java.util.TreeMap;

/**
 * "A call that throws, or answers false, changes nothing", and neither does one that only asks: of two
 * objects with the same calls one gets such a call in between, at every place of each run, and all that
 * both answer from there on, to the end of the run and behind it, must be the same.
 */
public final class PlanBoundsTwins {
    private static final int[] PLACES = {-1, 0, 1, 11, 12, Integer.MIN_VALUE, Integer.MAX_VALUE};
    private static final int[] PARTS = {-1, 0, 1, 2, Integer.MIN_VALUE, Integer.MAX_VALUE};
    private static final long[] RIGHTS = {
        Long.MIN_VALUE, -1000001, -1000000, 0, 1, 1000000, 1000001, Long.MAX_VALUE
    };
    /** Each call that may be refused, with what it may be refused by; each must be met at least once. */
    private static final String[] REFUSED = {
        "column IllegalStateException", "column IllegalArgumentException",
        "row IllegalStateException", "row IllegalArgumentException",
        "factor IndexOutOfBoundsException", "factor IllegalStateException", "factor IllegalArgumentException",
        "cut IndexOutOfBoundsException", "cut IllegalStateException", "cut IllegalArgumentException",
        "right IndexOutOfBoundsException", "right IllegalArgumentException", "right false",
        "run IllegalArgumentException", "value IllegalArgumentException",
        "share IndexOutOfBoundsException", "share IllegalArgumentException",
        "dual IndexOutOfBoundsException", "dual IllegalArgumentException",
        "factorOf IndexOutOfBoundsException", "factorOf IllegalStateException", "factorOf IllegalArgumentException"
    };
    private static final List<String> ASKING = List.of("value", "share", "dual", "factorOf", "check", "steps", "count");
    private static final Map<String, Integer> met = new TreeMap<>();
    private static int wrong = 0;

    private interface Work {
        Object go(PlanBounds x);
    }

    private record Call(String name, String arguments, Work work) {
        String answer(PlanBounds x) {
            try {
                return String.valueOf(work.go(x));
            } catch (RuntimeException e) {
                return e.getClass().getSimpleName();
            }
        }
    }

    private static Call column(long cost) {
        return new Call("column", "" + cost, x -> x.column(cost));
    }

    private static Call row(int kind, int week, long right) {
        return new Call("row", kind + ", " + week + ", " + right, x -> x.row(kind, week, right));
    }

    private static Call factor(int row, int column, int v) {
        return new Call("factor", row + ", " + column + ", " + v, x -> x.factor(row, column, v));
    }

    private static Call cut(int a, int b) {
        return new Call("cut", a + ", " + b, x -> x.cut(a, b));
    }

    private static Call right(int row, long v) {
        return new Call("right", row + ", " + v, x -> x.right(row, v));
    }

    private static Call run(int steps) {
        return new Call("run", "" + steps, x -> x.run(steps));
    }

    private static void addAsking(List<Call> all) {
        for (int part : PARTS) {
            all.add(new Call("value", "" + part, x -> x.value(part)));
            for (int at : PLACES) {
                String arguments = at + ", " + part;
                all.add(new Call("share", arguments, x -> x.share(at, part)));
                all.add(new Call("dual", arguments, x -> x.dual(at, part)));
                all.add(new Call("factorOf", arguments, x -> x.factorOf(at, part)));
            }
        }
        all.add(new Call("check", "", PlanBounds::check));
        all.add(new Call("steps", "", PlanBounds::steps));
        for (int what : new int[] {-1, 0, 1, 2, 3, 4, 5, 64, 65, Integer.MIN_VALUE, Integer.MAX_VALUE}) {
            all.add(new Call("count", "" + what, x -> x.count(what)));
        }
    }

    private static void addChanging(List<Call> all) {
        for (long cost : new long[] {Long.MIN_VALUE, -1, 0, 1000, 1001, Long.MAX_VALUE}) {
            all.add(column(cost));
        }
        for (int wrongKind : new int[] {-1, 3, Integer.MIN_VALUE, Integer.MAX_VALUE}) {
            all.add(row(wrongKind, 0, 7));
        }
        for (int week : new int[] {-1, 60, Integer.MIN_VALUE, Integer.MAX_VALUE}) {
            all.add(row(0, week, 7));
        }
        for (long v : RIGHTS) {
            all.add(row(1, 0, v));
            for (int at = -1; at <= 12; at++) {
                all.add(right(at, v));
            }
        }
        for (int at : PLACES) {
            for (int v : new int[] {Integer.MIN_VALUE, -1001, 1, 1001, Integer.MAX_VALUE}) {
                all.add(factor(at, 0, v));
                all.add(factor(0, at, v));
                all.add(factor(2, at, v));
            }
            all.add(cut(at, 0));
            all.add(cut(1, at));
            all.add(cut(at, at));
        }
        for (int steps : new int[] {Integer.MIN_VALUE, -1, 1001, Integer.MAX_VALUE}) {
            all.add(run(steps));
        }
    }

    private static void addFactors(List<Call> calls, int row, int... factors) {
        for (int j = 0; j < factors.length; j++) {
            calls.add(factor(row, j, factors[j]));
        }
    }

    /** Steps, a contradiction, a right side that mends it, a cut, steps that are spent. */
    private static List<Call> ordinary() {
        List<Call> calls = new ArrayList<>(List.of(column(3), column(2), row(0, 0, 7), row(1, 1, 2)));
        addFactors(calls, 0, 5, 3);
        addFactors(calls, 1, 1, 1);
        calls.addAll(List.of(run(0), run(9), row(0, 2, 9)));
        addFactors(calls, 2, 1, 2);
        calls.addAll(List.of(run(9), right(2, 3), cut(0, 1), run(1), run(1000), right(0, 2), run(9)));
        return calls;
    }

    /** Numbers as great as they may be: a line and a step that are too great, right sides too. */
    private static List<Call> great() {
        List<Call> calls = new ArrayList<>(List.of(column(1000), column(1), column(0), row(0, 0, 1), row(0, 59, 1)));
        addFactors(calls, 0, 1000, -1, 0);
        addFactors(calls, 1, 0, 1000, -1);
        calls.addAll(List.of(run(1), run(9), row(2, 0, 0), row(0, 0, 1)));
        addFactors(calls, 2, 1, 0, 1000);
        addFactors(calls, 3, 1, 0, 0);
        calls.addAll(List.of(run(9), factor(2, 0, 0), run(0), run(9), right(1, 500), run(9), right(3, 0), run(9)));
        return calls;
    }

    /** A contradiction that stays while right sides that are too great are asked for. */
    private static List<Call> contradicting() {
        List<Call> calls = new ArrayList<>(List.of(column(0), row(0, 0, 1), row(1, 0, 0)));
        addFactors(calls, 0, 1000);
        addFactors(calls, 1, 1);
        calls.addAll(List.of(run(9), row(0, 0, 0), run(0), right(1, 4), run(5), right(1, -1), run(5)));
        return calls;
    }

    /** All columns, all rows, all lines. */
    private static List<Call> full() {
        List<Call> calls = new ArrayList<>();
        for (int j = 0; j < 12; j++) {
            calls.add(column(j));
        }
        for (int r = 0; r < 12; r++) {
            calls.add(row(2, r, 12 - r));
            calls.add(factor(r, r, 1));
            calls.add(factor(r, (r + 1) % 12, r % 2));
        }
        calls.addAll(List.of(run(3), run(5), right(11, 2), run(1000), right(0, -1), run(1000)));
        return calls;
    }

    /** All that can be asked, but only of what is there: so an object stays under its 512 calls. */
    private static String look(PlanBounds x) {
        StringBuilder text = new StringBuilder();
        for (int what : new int[] {0, 1, 2, 3, 4, 5, 6, 7, 64}) {
            text.append(x.count(what)).append(' ');
        }
        int columns = x.count(0);
        int rows = x.count(1);
        text.append(x.steps()).append(' ').append(x.check()).append(' ');
        text.append(x.value(0)).append('/').append(x.value(1));
        for (int j = 0; j < columns; j++) {
            text.append(' ').append(x.share(j, 0)).append('/').append(x.share(j, 1));
        }
        for (int r = 0; r < rows; r++) {
            text.append(' ').append(x.dual(r, 0)).append('/').append(x.dual(r, 1));
        }
        try {
            for (int r = 0; r < rows; r++) {
                text.append(' ').append(x.factorOf(r, 0)).append('/').append(x.factorOf(r, 1));
            }
        } catch (IllegalStateException e) {
            text.append(" no proof");
        }
        return text.append('\n').toString();
    }

    /** What is left when a run has ended: factors and right sides, by calls that tell them. */
    private static String end(PlanBounds x) {
        StringBuilder text = new StringBuilder(look(x));
        List<Call> last = new ArrayList<>(List.of(column(1), row(0, 0, 1), row(0, 0, 2), factor(0, 0, 5)));
        for (int r = 0; r < x.count(1) + 2; r++) {
            last.add(factor(r, 0, 1));
            last.add(factor(r, 1, 1));
        }
        last.addAll(List.of(run(1), run(1000), right(0, 3), run(1000)));
        for (Call call : last) {
            text.append(call.answer(x)).append(' ');
        }
        return text.append(look(x)).toString();
    }

    private static String goOn(PlanBounds x, List<Call> calls, int from) {
        StringBuilder text = new StringBuilder(look(x));
        for (Call call : calls.subList(from, calls.size())) {
            text.append(call.answer(x)).append(' ');
        }
        return text.append(end(x)).toString();
    }

    private static PlanBounds after(List<Call> calls, int many) {
        PlanBounds x = new PlanBounds(60);
        for (Call call : calls.subList(0, many)) {
            call.answer(x);
        }
        return x;
    }

    private static void compareAt(String name, List<Call> calls, int at, List<Call> between) {
        String want = goOn(after(calls, at), calls, at);
        for (Call call : between) {
            PlanBounds x = after(calls, at);
            String answer = call.answer(x);
            boolean refused = answer.endsWith("Exception") || answer.equals("false");
            if (!refused && !ASKING.contains(call.name())) {
                continue;
            }
            met.merge(call.name() + " " + (refused ? answer : "answers"), 1, Integer::sum);
            String got = goOn(x, calls, at);
            if (!got.equals(want)) {
                wrong++;
                if (wrong <= 20) {
                    System.out.println(name + ", behind " + at + " calls: " + call.name() + "(" + call.arguments()
                        + ") answered " + answer + " and changed something");
                }
            }
        }
    }

    private static void compare(String name, List<Call> calls) {
        List<Call> between = new ArrayList<>();
        addAsking(between);
        addChanging(between);
        for (int at = 0; at <= calls.size(); at++) {
            compareAt(name, calls, at, between);
        }
    }

    public static void main(String[] args) {
        compare("ordinary", ordinary());
        compare("great", great());
        compare("contradicting", contradicting());
        compare("full", full());
        for (String refused : REFUSED) {
            if (!met.containsKey(refused)) {
                wrong++;
                System.out.println("never met: " + refused);
            }
        }
        for (String seen : met.keySet()) {
            boolean asks = seen.endsWith(" answers");
            if (!asks && !List.of(REFUSED).contains(seen)) {
                wrong++;
                System.out.println("not named by the document: " + seen);
            }
        }
        System.out.println(met);
        System.out.println(wrong + " things are not as due");
        if (wrong != 0) {
            System.exit(1);
        }
    }
}
