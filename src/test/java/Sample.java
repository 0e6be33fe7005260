/**
 * An object in a state whose every number is known, so that it can be told whether a call that
 * was refused left all as it was.
 */
final class Sample {

    /** What was done before the numbers were told, or behind it. */
    private enum Way { NEVER_RUN, RUN, CHANGED_SINCE_RUN, CLEARED }

    /** The answers aren't known in these. */
    static final Sample[] UNKNOWN = {
        new Sample("new", Way.NEVER_RUN, 2, new long[3][7], new long[11], new long[0],
                new long[13]),
        new Sample("cleared", Way.CLEARED, 4, new long[5][7], new long[11], new long[0],
                new long[13]),
        new Sample("without factors", Way.RUN, 1, new long[2][7], counted(11), counted(2),
                counted(13)),
        new Sample("never run", Way.NEVER_RUN, 3, twoAndThree(), oneAt(2), counted(3), counted(4)),
        new Sample("changed since run", Way.CHANGED_SINCE_RUN, 3, twoAndThree(), oneAt(2),
                counted(3), counted(4)),
    };

    /** The answers are known in these. */
    static final Sample[] KNOWN = {
        new Sample("answered", Way.RUN, 3, twoAndThree(), oneAt(2), counted(3), counted(4)),
        new Sample("one factor", Way.RUN, 1, new long[][] {oneAt(0), new long[7]}, new long[11],
                new long[0], new long[13]),
        new Sample("full", Way.RUN, 4, fullFactors(), counted(11), counted(12), counted(13)),
        new Sample("filled anew", Way.CLEARED, 2, new long[][] {counted(7), oneAt(6), oneAt(0)},
                counted(11), counted(12), counted(13)).thenRun(),
    };

    static final Sample[] ALL = joined(UNKNOWN, KNOWN);

    final String name;
    final int order;
    private final Way way;
    private final long[][] factors;
    private final long[] right;
    private final long[] starts;
    private final long[] puts;
    private boolean runAtLast;

    private Sample(String name, Way way, int order, long[][] factors, long[] right,
            long[] starts, long[] puts) {
        this.name = name;
        this.way = way;
        this.order = order;
        this.factors = factors;
        this.right = right;
        this.starts = starts;
        this.puts = puts;
    }

    private Sample thenRun() {
        runAtLast = true;
        return this;
    }

    private static Sample[] joined(Sample[] first, Sample[] second) {
        Sample[] all = java.util.Arrays.copyOf(first, first.length + second.length);
        System.arraycopy(second, 0, all, first.length, second.length);
        return all;
    }

    /** No two of the numbers are the same, and none is 0. */
    private static long[] counted(int length) {
        long[] numbers = new long[length];
        for (int i = 0; i < length; i++) {
            numbers[i] = 32002 - 7 * i;
        }
        return numbers;
    }

    private static long[] oneAt(int power) {
        long[] numbers = new long[power + 1];
        numbers[power] = 1;
        return numbers;
    }

    /** (z - 2)^2 (z - 3): the answers 2^n, 2^n n and 3^n. */
    private static long[][] twoAndThree() {
        return new long[][] {{-12}, {16}, {-7}, {1}};
    }

    private static long[][] fullFactors() {
        long[][] factors = new long[5][];
        for (int shift = 0; shift <= 4; shift++) {
            factors[shift] = counted(7);
            factors[shift][6] -= shift;
        }
        return factors;
    }

    RecurrenceAnswers make() {
        RecurrenceAnswers x = new RecurrenceAnswers(order);
        if (way == Way.CLEARED) {
            x.factor(0, 3, 3, 1);
            x.factor(order, 2, 2, 1);
            x.right(9, 9, 1);
            x.put(8, 8);
            x.start(5);
            x.run();
            x.value(9);
            x.singular(0);
            x.clear();
        }
        tellEquation(x);
        for (long start : starts) {
            x.start(start);
        }
        for (int power = 0; power < puts.length; power++) {
            x.put(power, (int) puts[power]);
        }
        if (way == Way.RUN || way == Way.CHANGED_SINCE_RUN || runAtLast) {
            x.run();
        }
        if (way == Way.CHANGED_SINCE_RUN) {
            x.right(2, 0, 1);
            x.right(2, 1, 1);
        }
        return x;
    }

    void tellEquation(RecurrenceAnswers x) {
        for (int shift = 0; shift <= order; shift++) {
            for (int power = 0; power < factors[shift].length; power++) {
                x.factor(shift, power, factors[shift][power], 1);
            }
        }
        for (int power = 0; power < right.length; power++) {
            x.right(power, right[power], 1);
        }
    }

    /** Checks that an object is as make() leaves it; the object is used up. */
    void stands(Checks checks, String what, RecurrenceAnswers x) {
        String where = what + " (" + name + "): ";
        checks.same(where + "all that can be asked", seen(x), seen(make()));
        for (int shift = 0; shift <= order; shift++) {
            for (int power = 0; power <= 6; power++) {
                checks.no(where + "factor " + shift + ", " + power + " is another",
                        x.factor(shift, power, number(factors[shift], power), 1));
            }
        }
        for (int power = 0; power <= 10; power++) {
            checks.no(where + "right " + power + " is another",
                    x.right(power, number(right, power), 1));
        }
        for (int power = 0; power <= 12; power++) {
            checks.no(where + "put " + power + " is another",
                    x.put(power, (int) number(puts, power)));
        }
        int room = 0;
        while (room <= 12 && x.start(1)) {
            room++;
        }
        checks.equal(where + "room for starts", room, 12 - starts.length);
    }

    private static long number(long[] numbers, int power) {
        return power < numbers.length ? numbers[power] : 0;
    }

    /** What all queries answer or throw; with the rest an object has at most 512 calls. */
    private static String seen(RecurrenceAnswers x) {
        StringBuilder all = new StringBuilder();
        note(all, "polynomials", x::polynomials);
        note(all, "meets", () -> x.meets() ? 1 : 0);
        note(all, "powers", x::powers);
        for (int k = -1; k <= 4; k++) {
            int at = k;
            note(all, "base", () -> x.base(at));
            note(all, "many", () -> x.many(at));
            for (int power = 0; power <= 12; power += 2) {
                int height = power;
                note(all, "answer", () -> x.answer(at, height));
                note(all, "times", () -> x.times(at, 0, height));
                note(all, "times", () -> x.times(at, 1, height));
            }
        }
        for (int i = 0; i <= 18; i++) {
            int at = i;
            note(all, "value", () -> x.value(at));
            note(all, "rest", () -> x.rest(at));
            note(all, "singular", () -> x.singular(at));
            note(all, "end", () -> x.end(at % 2));
        }
        note(all, "value", () -> x.value(300));
        return all.toString();
    }

    private static void note(StringBuilder all, String what, Checks.Call call) {
        all.append(what).append(' ');
        try {
            all.append(call.make());
        } catch (RuntimeException e) {
            all.append(e.getClass().getSimpleName());
        }
        all.append("; ");
    }
}
