import java.util.Random;

/**
 * Long runs of calls by chance, wrong ones among them: each answer is the one that a new object
 * gives that was told the same equation, starts and polynomial, so nothing lags behind a change;
 * and each exception is the one that the document names.
 */
public final class StateTests {

    private static final int P = 32003;
    private static final Checks CHECKS = new Checks();
    private static final Random CHANCE = new Random(32003L);
    private static final int[] WILD = {Integer.MIN_VALUE, -2, -1, 0, 1, 2, 3, 4, 5, 6, 7, 10, 11,
        12, 13, 18, 19, 300, 301, Integer.MAX_VALUE};

    private final int order = 1 + CHANCE.nextInt(4);
    private final RecurrenceAnswers x = new RecurrenceAnswers(order);
    private long[][] factors = new long[order + 1][7];
    private long[] right = new long[11];
    private long[] put = new long[13];
    private long[] starts = new long[12];
    private int startCount;
    private boolean known;

    public static void main(String[] args) {
        for (int round = 0; round < 300; round++) {
            StateTests run = new StateTests();
            for (int call = 0; call < 500; call++) {
                run.call();
            }
        }
        CHECKS.finish();
    }

    private static int wild() {
        return WILD[CHANCE.nextInt(WILD.length)];
    }

    private static int below(int bound) {
        return CHANCE.nextInt(bound);
    }

    private void call() {
        int kind = below(20);
        if (kind < 5) {
            callFactor(below(8) == 0 ? wild() : below(order + 1), below(8) == 0 ? wild() : below(3));
        } else if (kind == 5) {
            callRight(below(4) == 0 ? wild() : below(11));
        } else if (kind == 6) {
            callPut(below(4) == 0 ? wild() : below(13), below(5) - 2 + P * (below(3) - 1));
        } else if (kind == 7) {
            callStart();
        } else if (kind == 8) {
            callClearSeldom();
        } else if (kind < 11) {
            int due = fresh().run();
            CHECKS.equal("run()", x.run(), due);
            known = due == 0;
        } else {
            compareQueries();
        }
    }

    private void callFactor(int shift, int power) {
        long above = below(3) - 1 + (long) P * (below(5) - 2);
        long below = below(10) == 0 ? (long) P * (below(3) - 1) : 1 + below(2);
        if (shift < 0 || shift > order) {
            CHECKS.thrown("shift " + shift, ArrayIndexOutOfBoundsException.class,
                    () -> x.factor(shift, power, above, below) ? 1 : 0);
        } else if (power < 0 || power > 6) {
            CHECKS.illegalArgument("power " + power,
                    () -> x.factor(shift, power, above, below) ? 1 : 0);
        } else if (below % P == 0) {
            CHECKS.thrown("below " + below, ArithmeticException.class,
                    () -> x.factor(shift, power, above, below) ? 1 : 0);
        } else {
            told("factor", factors[shift], power, above, below, x.factor(shift, power, above, below));
        }
    }

    private void callRight(int power) {
        long above = below(3) - 1;
        long below = below(10) == 0 ? -P : 2;
        if (power < 0 || power > 10) {
            CHECKS.illegalArgument("power " + power, () -> x.right(power, above, below) ? 1 : 0);
        } else if (below % P == 0) {
            CHECKS.thrown("below " + below, ArithmeticException.class,
                    () -> x.right(power, above, below) ? 1 : 0);
        } else {
            told("right", right, power, above, below, x.right(power, above, below));
        }
    }

    /** Halves are the only fractions here: 16002 is one half. */
    private void told(String what, long[] row, int power, long above, long below, boolean got) {
        long number = Math.floorMod(above * (below == 2 ? 16002 : 1), (long) P);
        CHECKS.equal(what, got ? 1 : 0, row[power] != number ? 1 : 0);
        known = known && row[power] == number;
        row[power] = number;
    }

    private void callPut(int power, int v) {
        if (power < 0 || power > 12) {
            CHECKS.illegalArgument("power " + power, () -> x.put(power, v) ? 1 : 0);
            return;
        }
        long number = Math.floorMod(v, P);
        CHECKS.equal("put", x.put(power, v) ? 1 : 0, put[power] != number ? 1 : 0);
        put[power] = number;
    }

    private void callStart() {
        long v = CHANCE.nextLong();
        CHECKS.equal("start", x.start(v) ? 1 : 0, startCount < 12 ? 1 : 0);
        if (startCount < 12) {
            starts[startCount] = v;
            startCount++;
        }
    }

    private void callClearSeldom() {
        if (below(6) == 0) {
            x.clear();
            factors = new long[order + 1][7];
            right = new long[11];
            put = new long[13];
            startCount = 0;
            known = false;
        }
    }

    private RecurrenceAnswers fresh() {
        RecurrenceAnswers made = new RecurrenceAnswers(order);
        for (int shift = 0; shift <= order; shift++) {
            for (int power = 0; power < 7; power++) {
                made.factor(shift, power, factors[shift][power], 1);
            }
        }
        for (int power = 0; power < 11; power++) {
            made.right(power, right[power], 1);
        }
        for (int power = 0; power < 13; power++) {
            made.put(power, (int) put[power]);
        }
        for (int i = 0; i < startCount; i++) {
            made.start(starts[i]);
        }
        if (known) {
            made.run();
        }
        return made;
    }

    private void compareQueries() {
        RecurrenceAnswers due = fresh();
        int k = below(3) == 0 ? wild() : below(4) - 1;
        int i = below(3) == 0 ? wild() : below(3);
        int power = below(3) == 0 ? wild() : below(13);
        int n = below(3) == 0 ? wild() : below(301);
        switch (below(11)) {
            case 0 -> same("polynomials()", x::polynomials, due::polynomials);
            case 1 -> same("answer()", () -> x.answer(k, power), () -> due.answer(k, power));
            case 2 -> same("meets()", () -> x.meets() ? 1 : 0, () -> due.meets() ? 1 : 0);
            case 3 -> same("powers()", x::powers, due::powers);
            case 4 -> same("base()", () -> x.base(k), () -> due.base(k));
            case 5 -> same("many()", () -> x.many(k), () -> due.many(k));
            case 6 -> same("times()", () -> x.times(k, i, power), () -> due.times(k, i, power));
            case 7 -> same("value()", () -> x.value(n), () -> due.value(n));
            case 8 -> same("singular()", () -> x.singular(k), () -> due.singular(k));
            case 9 -> same("end()", () -> x.end(k), () -> due.end(k));
            default -> same("rest()", () -> x.rest(power), () -> due.rest(power));
        }
    }

    private static void same(String what, Checks.Call got, Checks.Call due) {
        CHECKS.equal(what, outcome(got), outcome(due));
    }

    /** Two numbers that are no answers stand for the two exceptions that a query may throw. */
    private static long outcome(Checks.Call call) {
        try {
            return call.make();
        } catch (IllegalStateException e) {
            return -1001;
        } catch (IllegalArgumentException e) {
            return -1002;
        }
    }
}
