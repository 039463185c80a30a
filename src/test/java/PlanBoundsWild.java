import java.util.List;
import java.util.Random;

/**
 * Calls with wild arguments, drawn from fixed seeds: nothing but what the call names is thrown, the
 * machine throws nothing by itself, and a call that throws, or answers false, changes nothing.
 */
public final class PlanBoundsWild {
    private static final int[] INTS = {
        Integer.MIN_VALUE, -1001, -1000, -2, -1, 0, 1, 2, 3, 4, 5, 7, 11, 12, 13, 60, 64, 65, 1000, 1001, Integer.MAX_VALUE
    };
    private static final long[] LONGS = {
        Long.MIN_VALUE, -1000001, -1000000, -1000, -3, -1, 0, 1, 2, 10, 999, 1000, 1001, 1000000, 1000001, 1L << 32, Long.MAX_VALUE
    };
    private static final List<String> NAMES = List.of(
        "column", "row", "factor", "cut", "right", "run", "value", "share", "dual", "factorOf");
    private static final List<String> THROWN = List.of("SA", "SA", "ISA", "ISA", "IA", "A", "A", "IA", "IA", "ISA");
    private static int wrong = 0;

    private static int anInt(Random random) {
        return random.nextInt(3) > 0 ? random.nextInt(12) : INTS[random.nextInt(INTS.length)];
    }

    private static long aLong(Random random) {
        return random.nextInt(3) > 0 ? random.nextInt(41) - 20 : LONGS[random.nextInt(LONGS.length)];
    }

    private static long call(PlanBounds x, int which, int[] a, long v) {
        switch (which) {
            case 0: return x.column(v);
            case 1: return x.row(a[0] % 4, a[1], v);
            case 2: return x.factor(a[0], a[1], a[2]);
            case 3: return x.cut(a[0], a[1]);
            case 4: return x.right(a[0], v) ? 1 : 0;
            case 5: return x.run(a[0]);
            case 6: return x.value(a[0]);
            case 7: return x.share(a[0], a[1]);
            case 8: return x.dual(a[0], a[1]);
            default: return x.factorOf(a[0], a[1]);
        }
    }

    private static String kindOf(RuntimeException e) {
        if (e.getClass() == IndexOutOfBoundsException.class) {
            return "I";
        }
        if (e.getClass() == IllegalStateException.class) {
            return "S";
        }
        return e.getClass() == IllegalArgumentException.class ? "A" : "by the machine: " + e;
    }

    /** All that can be asked of the object without a change, but for the factors. */
    private static String told(PlanBounds x) {
        StringBuilder text = new StringBuilder();
        for (int what = 0; what < 10; what++) {
            text.append(x.count(what)).append(' ');
        }
        text.append(x.steps()).append(' ').append(x.check()).append(' ').append(x.value(0)).append('/').append(x.value(1));
        for (int j = 0; j < x.count(0); j++) {
            text.append(' ').append(x.share(j, 0)).append('/').append(x.share(j, 1));
        }
        for (int r = 0; r < x.count(1); r++) {
            text.append(' ').append(x.dual(r, 0)).append('/').append(x.dual(r, 1));
            try {
                text.append(' ').append(x.factorOf(r, 0)).append('/').append(x.factorOf(r, 1));
            } catch (IllegalStateException e) {
                text.append(" none");
            }
        }
        return text.toString();
    }

    private static void complain(long seed, int which, int[] a, long v, String what) {
        wrong++;
        if (wrong <= 20) {
            System.out.println("seed " + seed + ": " + NAMES.get(which) + " of " + a[0] + " " + a[1] + " " + a[2] + " " + v + ": " + what);
        }
    }

    private static void oneRun(long seed) {
        Random random = new Random(seed);
        PlanBounds x = new PlanBounds(anInt(random));
        for (int turn = 0; turn < 300; turn++) {
            int which = turn < 20 ? random.nextInt(4) : random.nextInt(NAMES.size());
            int[] a = {anInt(random), anInt(random), anInt(random)};
            long v = aLong(random);
            String before = told(x);
            boolean changed = true;
            try {
                changed = call(x, which, a, v) != 0 || which != 4;
            } catch (RuntimeException e) {
                changed = false;
                if (!THROWN.get(which).contains(kindOf(e))) {
                    complain(seed, which, a, v, kindOf(e) + " is not named");
                }
            }
            if (!changed && !told(x).equals(before)) {
                complain(seed, which, a, v, before + " became " + told(x));
            }
            x.count(INTS[random.nextInt(INTS.length)]);
        }
    }

    public static void main(String[] args) {
        for (int seed = 0; seed < 600; seed++) {
            oneRun(seed);
        }
        System.out.println(wrong == 0 ? "nothing is thrown that is not named" : wrong + " calls are not as due");
        if (wrong != 0) {
            System.exit(1);
        }
    }
}
