import java.util.Random;

/**
 * Equations by the hundred, each answer held against plain counting: ranks of systems made of the
 * equation's values at places (the class itself compares powers), scans of all numbers for zeros
 * and bases, the recurrence step by step.
 */
public final class BruteForceTests {

    private static final int P = 32003;
    private static final int PLACES = 25;
    private static final Checks CHECKS = new Checks();
    /** A written seed: the same equations every time. */
    private static final Random CHANCE = new Random(20261116L);

    public static void main(String[] args) {
        for (int round = 0; round < 400; round++) {
            checkAll(withAnswers(), false);
        }
        for (int round = 0; round < 150; round++) {
            checkAll(byChance(), false);
        }
        for (int round = 0; round < 8; round++) {
            checkAll(withAnswers(), true);
            checkAll(byChance(), true);
        }
        for (int round = 0; round < 300; round++) {
            checkZeros();
        }
        CHECKS.finish();
    }

    /** An equation as the tests hold it. */
    private static final class Told {
        final int order;
        final long[][] factors;
        final long[] right = new long[11];

        Told(int order) {
            this.order = order;
            factors = new long[order + 1][7];
        }

        RecurrenceAnswers object() {
            RecurrenceAnswers x = new RecurrenceAnswers(order);
            for (int shift = 0; shift <= order; shift++) {
                for (int power = 0; power < 7; power++) {
                    x.factor(shift, power, factors[shift][power], 1);
                }
            }
            for (int power = 0; power < 11; power++) {
                x.right(power, right[power], 1);
            }
            return x;
        }

        int greatest() {
            for (int shift = order; shift >= 0; shift--) {
                if (degree(factors[shift]) >= 0) {
                    return shift;
                }
            }
            return -1;
        }
    }

    // Making equations

    private static int below(int bound) {
        return CHANCE.nextInt(bound);
    }

    /** Small numbers often, so that zeros and equal ones meet. */
    private static long number() {
        return below(3) == 0 ? below(P) : Math.floorMod(below(9) - 4, P);
    }

    private static Told byChance() {
        Told told = new Told(1 + below(4));
        int top = below(7);
        for (int shift = 0; shift <= told.order; shift++) {
            for (int power = 0; power <= top && below(6) > 0; power++) {
                told.factors[shift][power] = number();
            }
        }
        if (told.greatest() < 0) {
            told.factors[below(told.order + 1)][below(7)] = 1 + below(P - 1);
        }
        setRight(told);
        return told;
    }

    /** The equation of a few z^n q(n): minors of the table of their next values. */
    private static Told withAnswers() {
        for (int attempt = 0; attempt < 1000; attempt++) {
            Told told = new Told(1 + below(4));
            int count = 1 + below(told.order);
            long[] z = new long[count];
            long[][] q = new long[count][];
            int room = 6;
            for (int i = 0; i < count; i++) {
                z[i] = below(2) == 0 ? 1 + below(3) : 1 + below(P - 1);
                int degree = below(Math.min(room, 3) + 1);
                room -= degree;
                q[i] = new long[degree + 1];
                for (int power = 0; power < degree; power++) {
                    q[i][power] = number();
                }
                q[i][degree] = 1;
            }
            int offset = below(told.order - count + 1);
            if (fillMinors(told, z, q, offset)) {
                setRight(told);
                return told;
            }
        }
        throw new IllegalStateException("no equation was made");
    }

    private static boolean fillMinors(Told told, long[] z, long[][] q, int offset) {
        int count = z.length;
        long[][][] table = new long[count + 1][count][];
        for (int shift = 0; shift <= count; shift++) {
            for (int i = 0; i < count; i++) {
                table[shift][i] = scaled(shifted(q[i], shift), power(z[i], shift));
            }
        }
        boolean some = false;
        for (int shift = 0; shift <= count; shift++) {
            long[] minor = scaled(minor(table, shift, 0, 0), shift % 2 == 0 ? 1 : P - 1);
            int degree = degree(minor);
            if (degree > 6) {
                return false;
            }
            some |= degree >= 0;
            for (int power = 0; power <= degree; power++) {
                told.factors[shift + offset][power] = minor[power];
            }
        }
        return some;
    }

    /** The determinant of the table without one line, by its first column that is left. */
    private static long[] minor(long[][][] table, int without, int column, int used) {
        int count = table[0].length;
        if (column == count) {
            return new long[] {1};
        }
        long[] sum = new long[1];
        int place = 0;
        for (int line = 0; line <= count; line++) {
            if (line == without || (used >> line & 1) == 1) {
                continue;
            }
            long[] part = multiplied(table[line][column],
                    minor(table, without, column + 1, used | 1 << line));
            sum = added(sum, scaled(part, place % 2 == 0 ? 1 : P - 1));
            place++;
        }
        return sum;
    }

    /** 0, or one that a polynomial meets, or one by chance. */
    private static void setRight(Told told) {
        int kind = below(4);
        if (kind == 0) {
            return;
        }
        long[] made = new long[1 + below(11)];
        for (int power = 0; power < made.length; power++) {
            made[power] = number();
        }
        if (kind > 1) {
            made = left(told, made);
        }
        if (degree(made) <= 10) {
            System.arraycopy(made, 0, told.right, 0, degree(made) + 1);
        }
    }

    // Polynomials, plainly

    private static int degree(long[] a) {
        int degree = a.length - 1;
        while (degree >= 0 && a[degree] == 0) {
            degree--;
        }
        return degree;
    }

    private static long[] multiplied(long[] a, long[] b) {
        long[] product = new long[a.length + b.length - 1];
        for (int i = 0; i < a.length; i++) {
            for (int j = 0; j < b.length; j++) {
                product[i + j] = (product[i + j] + a[i] * b[j]) % P;
            }
        }
        return product;
    }

    private static long[] added(long[] a, long[] b) {
        long[] sum = new long[Math.max(a.length, b.length)];
        for (int i = 0; i < sum.length; i++) {
            sum[i] = ((i < a.length ? a[i] : 0) + (i < b.length ? b[i] : 0)) % P;
        }
        return sum;
    }

    private static long[] scaled(long[] a, long scale) {
        return multiplied(a, new long[] {scale});
    }

    private static long[] shifted(long[] a, int shift) {
        long[] result = new long[1];
        for (int i = a.length - 1; i >= 0; i--) {
            result = added(multiplied(result, new long[] {shift, 1}), new long[] {a[i]});
        }
        return result;
    }

    /** What the factors make of a polynomial. */
    private static long[] left(Told told, long[] q) {
        long[] sum = new long[1];
        for (int shift = 0; shift <= told.order; shift++) {
            sum = added(sum, multiplied(told.factors[shift], shifted(q, shift)));
        }
        return sum;
    }

    private static long at(long[] a, long n) {
        long sum = 0;
        for (int i = a.length - 1; i >= 0; i--) {
            sum = (sum * n + a[i]) % P;
        }
        return sum;
    }

    private static long power(long number, int exponent) {
        long result = 1;
        for (int i = 0; i < exponent; i++) {
            result = result * number % P;
        }
        return result;
    }

    /** Euclid's way, where the class takes Fermat's. */
    private static long inverse(long number) {
        long a = number;
        long b = P;
        long x = 1;
        long y = 0;
        while (b != 0) {
            long times = a / b;
            long rest = a - times * b;
            a = b;
            b = rest;
            long next = x - times * y;
            x = y;
            y = next;
        }
        return Math.floorMod(x, (long) P);
    }

    // Systems of the equation's values at places

    private static long[][] table(Told told, long z, boolean withRight) {
        long[][] table = new long[PLACES][withRight ? 14 : 13];
        for (int n = 0; n < PLACES; n++) {
            long scale = 1;
            for (int shift = 0; shift <= told.order; shift++) {
                long term = scale * at(told.factors[shift], n) % P;
                for (int power = 0; power < 13; power++) {
                    table[n][power] = (table[n][power] + term) % P;
                    term = term * (n + shift) % P;
                }
                scale = scale * z % P;
            }
            if (withRight) {
                table[n][13] = at(told.right, n);
            }
        }
        return table;
    }

    private static int rank(long[][] table) {
        int rank = 0;
        for (int column = table[0].length - 1; column >= 0; column--) {
            int line = rank;
            while (line < table.length && table[line][column] == 0) {
                line++;
            }
            if (line == table.length) {
                continue;
            }
            long[] pivot = table[line];
            table[line] = table[rank];
            table[rank] = pivot;
            long scale = inverse(pivot[column]);
            for (int other = rank + 1; other < table.length; other++) {
                long times = table[other][column] * scale % P;
                for (int i = 0; times != 0 && i < pivot.length; i++) {
                    table[other][i] = (table[other][i] + (P - times) * pivot[i]) % P;
                }
            }
            rank++;
        }
        return rank;
    }

    /** Whether the numbers solve the table's lines, the right side in its last column or 0. */
    private static boolean solves(long[][] table, long[] numbers) {
        for (long[] line : table) {
            long sum = line.length == 14 ? P - line[13] : 0;
            for (int power = 0; power < 13; power++) {
                sum = (sum + line[power] * numbers[power]) % P;
            }
            if (sum % P != 0) {
                return false;
            }
        }
        return true;
    }

    // The checks

    private static void checkAll(Told told, boolean scanBases) {
        RecurrenceAnswers x = told.object();
        CHECKS.equal("run()", x.run(), 0);
        int[] heads = checkPolynomials(told, x);
        checkParticular(told, x, heads);
        checkBases(told, x, scanBases);
        checkRest(told, x);
        checkValues(told, told.object());
    }

    private static int[] checkPolynomials(Told told, RecurrenceAnswers x) {
        long[][] row = new long[x.polynomials()][13];
        for (int k = 0; k < row.length; k++) {
            for (int power = 0; power < 13; power++) {
                row[k][power] = x.answer(k, power);
            }
        }
        return checkRow("row", told, 1, row);
    }

    /** A row is what it is by its size, its form, and by each in it being an answer. */
    private static int[] checkRow(String what, Told told, long z, long[][] row) {
        CHECKS.equal(what + " size", row.length, 13 - rank(table(told, z, false)));
        int[] heads = new int[row.length];
        for (int k = 0; k < row.length; k++) {
            CHECKS.yes(what + " answers", solves(table(told, z, false), row[k]));
            heads[k] = degree(row[k]);
            CHECKS.yes(what + " order", heads[k] > (k == 0 ? -1 : heads[k - 1]));
        }
        for (int k = 0; k < row.length; k++) {
            for (int other = 0; other < row.length; other++) {
                CHECKS.equal(what + " at heads", row[other][heads[k]], other == k ? 1 : 0);
            }
        }
        return heads;
    }

    private static void checkParticular(Told told, RecurrenceAnswers x, int[] heads) {
        boolean due = rank(table(told, 1, true)) == rank(table(told, 1, false));
        CHECKS.equal("meets()", x.meets() ? 1 : 0, due ? 1 : 0);
        if (!x.meets()) {
            CHECKS.illegalArgument("no particular one", () -> x.answer(-1, 0));
            return;
        }
        long[] numbers = new long[13];
        for (int power = 0; power < 13; power++) {
            numbers[power] = x.answer(-1, power);
        }
        CHECKS.yes("the particular one answers", solves(table(told, 1, true), numbers));
        for (int head : heads) {
            CHECKS.equal("the particular one at a head", numbers[head], 0);
        }
    }

    private static void checkBases(Told told, RecurrenceAnswers x, boolean scan) {
        long last = 0;
        for (int k = 0; k < x.powers(); k++) {
            long z = x.base(k);
            CHECKS.yes("bases in order", z > last && z < P);
            if (scan) {
                checkNoBases(told, last + 1, z);
            }
            last = z;
            long[][] row = new long[x.many(k)][13];
            CHECKS.yes("a base has answers", row.length > 0);
            for (int i = 0; i < row.length; i++) {
                for (int power = 0; power < 13; power++) {
                    row[i][power] = x.times(k, i, power);
                }
            }
            checkRow("base " + z, told, z, row);
        }
        CHECKS.equal("no base behind", x.base(x.powers()), -1);
        if (scan) {
            checkNoBases(told, last + 1, P);
        } else {
            checkNoBases(told, last + 1, Math.min(P, last + 9));
        }
    }

    private static void checkNoBases(Told told, long from, long to) {
        int found = 0;
        for (long z = from; z < to; z++) {
            if (rank(table(told, z, false)) < 13) {
                found++;
            }
        }
        CHECKS.equal("bases left out", found, 0);
    }

    private static void checkRest(Told told, RecurrenceAnswers x) {
        long[] q = new long[13];
        for (int power = 0; power < 13; power++) {
            q[power] = number();
            CHECKS.equal("put", x.put(power, (int) q[power]) ? 1 : 0, q[power] != 0 ? 1 : 0);
        }
        long[] due = added(left(told, q), scaled(told.right, P - 1));
        for (int power = 0; power <= 18; power++) {
            CHECKS.equal("rest", x.rest(power), power < due.length ? due[power] : 0);
        }
    }

    private static void checkValues(Told told, RecurrenceAnswers x) {
        int greatest = told.greatest();
        int starts = below(13);
        long[] y = new long[301];
        for (int i = 0; i < starts; i++) {
            y[i] = number();
            x.start(y[i]);
        }
        boolean known = starts >= greatest;
        for (int n = 0; n <= 300; n++) {
            if (known && n >= starts) {
                int place = n - greatest;
                long sum = at(told.right, place);
                for (int shift = 0; shift < greatest; shift++) {
                    sum += (P - at(told.factors[shift], place)) * y[place + shift];
                }
                long lead = at(told.factors[greatest], place);
                known = lead != 0;
                y[n] = sum % P * inverse(lead) % P;
            }
            CHECKS.equal("value " + n, x.value(n), known ? y[n] : -1);
        }
    }

    /** Products of linear and other factors, so that all numbers of zeros come up. */
    private static void checkZeros() {
        long[] polynomial = {1 + below(P - 1)};
        int degree = below(7);
        while (polynomial.length <= degree) {
            boolean pair = polynomial.length < degree && below(4) == 0;
            polynomial = multiplied(polynomial,
                    pair ? new long[] {below(P), below(P), 1} : new long[] {number(), 1});
        }
        RecurrenceAnswers x = new RecurrenceAnswers(1);
        for (int power = 0; power < polynomial.length; power++) {
            x.factor(0, power, polynomial[power], 1);
        }
        int k = 0;
        for (int n = 0; n < P; n++) {
            if (at(polynomial, n) == 0) {
                CHECKS.equal("singular " + k, x.singular(k), n);
                k++;
            }
        }
        CHECKS.equal("none behind", x.singular(k), -1);
    }
}
