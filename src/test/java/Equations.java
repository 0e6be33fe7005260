/** What the tests of boundaries share: equations by their numbers, and polynomials to compare. */
abstract class Equations {

    static final int P = 32003;

    /** An object whose factor i has the numbers of the i-th row, the lowest power first. */
    static RecurrenceAnswers equation(int order, long[]... factors) {
        RecurrenceAnswers x = new RecurrenceAnswers(order);
        for (int shift = 0; shift < factors.length; shift++) {
            for (int power = 0; power < factors[shift].length; power++) {
                x.factor(shift, power, factors[shift][power], 1);
            }
        }
        return x;
    }

    static RecurrenceAnswers ran(RecurrenceAnswers x) {
        x.run();
        return x;
    }

    static long[] row(long... numbers) {
        return numbers;
    }

    /** The step to n + 1, less z, so many times: its answers are z^n times 1, n, n^2, .. */
    static RecurrenceAnswers steps(int times, long z) {
        long[] zs = new long[times];
        java.util.Arrays.fill(zs, z);
        return stepsWith(zs);
    }

    /** The steps less each z, one after the other: its answers are the powers of these z. */
    static RecurrenceAnswers stepsWith(long... zs) {
        long[] numbers = withZeros(zs);
        RecurrenceAnswers x = new RecurrenceAnswers(zs.length);
        for (int shift = 0; shift <= zs.length; shift++) {
            x.factor(shift, 0, numbers[shift], 1);
        }
        return x;
    }

    /** (n + from) y(n + 1) = z (n + from + degree) y(n), which z^n rising(from, degree) answers. */
    static RecurrenceAnswers risingEquation(long z, int from, int degree) {
        return equation(1, row(-z * (from + degree), -z), row(from, 1));
    }

    /** (n + from) (n + from + 1) .. so many times. */
    static long[] rising(int from, int degree) {
        long[] zeros = new long[degree];
        for (int i = 0; i < degree; i++) {
            zeros[i] = -from - i;
        }
        return withZeros(zeros);
    }

    /** The monic polynomial with these zeros. */
    static long[] withZeros(long... zeros) {
        long[] product = new long[zeros.length + 1];
        product[0] = 1;
        for (int done = 0; done < zeros.length; done++) {
            for (int power = done + 1; power >= 0; power--) {
                long below = power > 0 ? product[power - 1] : 0;
                product[power] = modulo(below - zeros[done] % P * product[power]);
            }
        }
        return product;
    }

    static int modulo(long v) {
        return (int) Math.floorMod(v, (long) P);
    }

    static long bit(boolean b) {
        return b ? 1 : 0;
    }

    /** The k-th in the row, or the particular one for -1, has these numbers, and 0 behind them. */
    static void answerIs(Checks checks, String what, RecurrenceAnswers x, int k, long... due) {
        for (int power = 0; power <= 12; power++) {
            long number = power < due.length ? modulo(due[power]) : 0;
            checks.equal(what + ", answer(" + k + ", " + power + ")", x.answer(k, power), number);
        }
    }

    static void timesIs(Checks checks, String what, RecurrenceAnswers x, int k, int i,
            long... due) {
        for (int power = 0; power <= 12; power++) {
            long number = power < due.length ? modulo(due[power]) : 0;
            checks.equal(what + ", times(" + k + ", " + i + ", " + power + ")",
                    x.times(k, i, power), number);
        }
    }
}
