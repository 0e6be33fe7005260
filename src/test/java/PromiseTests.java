/** A method for each promise of the document: ordinary inputs, named edges, wrong inputs. */
public final class PromiseTests {

    private static final int P = 32003;
    private static final Checks CHECKS = new Checks();

    public static void main(String[] args) {
        newObject();
        newObjectIsEmpty();
        factorNumbers();
        factorRefusals();
        rightNumbers();
        rightRefusals();
        runAnswers();
        answersGetLost();
        startAndPutKeepAnswers();
        polynomialsAndAnswer();
        answerRefusals();
        meetsOrNot();
        particularAvoidsHeads();
        powersAndBases();
        timesRefusals();
        degreesUpToTwelve();
        starts();
        values();
        valuesStopAtZeros();
        valuesOfOneFactor();
        valuesFollowChanges();
        singulars();
        ends();
        restAndPut();
        clearing();
        CHECKS.finish();
    }

    /** An object whose factor i has the numbers of the i-th row, the lowest power first. */
    private static RecurrenceAnswers made(int order, long[]... factors) {
        RecurrenceAnswers x = new RecurrenceAnswers(order);
        for (int shift = 0; shift < factors.length; shift++) {
            for (int power = 0; power < factors[shift].length; power++) {
                x.factor(shift, power, factors[shift][power], 1);
            }
        }
        return x;
    }

    private static long[] row(long... numbers) {
        return numbers;
    }

    private static int modulo(long v) {
        return (int) Math.floorMod(v, (long) P);
    }

    private static long bit(boolean b) {
        return b ? 1 : 0;
    }

    // Promise 1

    private static void newObject() {
        int[] asked = {Integer.MIN_VALUE, -1, 0, 1, 2, 3, 4, 5, 9, Integer.MAX_VALUE};
        int[] due = {1, 1, 1, 1, 2, 3, 4, 4, 4, 4};
        for (int i = 0; i < asked.length; i++) {
            RecurrenceAnswers x = new RecurrenceAnswers(asked[i]);
            int order = due[i];
            CHECKS.yes("order " + asked[i] + " has factor " + order, x.factor(order, 0, 1, 1));
            CHECKS.thrown("order " + asked[i] + " beyond", ArrayIndexOutOfBoundsException.class,
                    () -> bit(x.factor(order + 1, 0, 1, 1)));
        }
    }

    private static void newObjectIsEmpty() {
        RecurrenceAnswers x = new RecurrenceAnswers(4);
        for (int power = 0; power <= 6; power++) {
            for (int shift = 0; shift <= 4; shift++) {
                CHECKS.no("a new factor is 0", x.factor(shift, power, 0, 1));
            }
        }
        for (int power = 0; power <= 10; power++) {
            CHECKS.no("a new right side is 0", x.right(power, 0, 1));
        }
        for (int power = 0; power <= 12; power++) {
            CHECKS.no("a new put is 0", x.put(power, 0));
        }
        for (int power = 0; power <= 18; power++) {
            CHECKS.equal("a new rest is 0", x.rest(power), 0);
        }
        CHECKS.illegalState("new polynomials()", x::polynomials);
        CHECKS.illegalState("new answer()", () -> x.answer(99, 99));
        CHECKS.illegalState("new meets()", () -> bit(x.meets()));
        CHECKS.illegalState("new powers()", x::powers);
        CHECKS.illegalState("new base()", () -> x.base(-5));
        CHECKS.illegalState("new many()", () -> x.many(0));
        CHECKS.illegalState("new times()", () -> x.times(-1, -1, -1));
        CHECKS.equal("new value(0)", x.value(0), -1);
        CHECKS.equal("new value(300)", x.value(300), -1);
        CHECKS.equal("new singular(0)", x.singular(0), -1);
        CHECKS.equal("new end(0)", x.end(0), -1);
        CHECKS.equal("new end(1)", x.end(1), -1);
    }

    // Promise 2

    private static void factorNumbers() {
        RecurrenceAnswers x = new RecurrenceAnswers(2);
        CHECKS.yes("a first number", x.factor(1, 3, 7, 1));
        CHECKS.no("the same", x.factor(1, 3, 7, 1));
        CHECKS.no("the same modulo", x.factor(1, 3, 7 + P, 1));
        CHECKS.no("the same as a fraction", x.factor(1, 3, -14, -2));
        CHECKS.no("the same below modulo", x.factor(1, 3, 14, 2 - 5L * P));
        CHECKS.yes("a half", x.factor(1, 3, 1, 2));
        CHECKS.no("a half is 16002", x.factor(1, 3, 16002, 1));
        CHECKS.yes("0", x.factor(1, 3, 0, 5));
        CHECKS.no("0 again", x.factor(1, 3, P, 5));
        CHECKS.yes("the least long", x.factor(0, 0, Long.MIN_VALUE, 1));
        CHECKS.no("the least long modulo", x.factor(0, 0, modulo(Long.MIN_VALUE), 1));
        CHECKS.yes("the greatest long", x.factor(0, 0, Long.MAX_VALUE, Long.MIN_VALUE));
        long number = modulo((long) modulo(Long.MAX_VALUE) * inverse(modulo(Long.MIN_VALUE)));
        CHECKS.no("the greatest long modulo", x.factor(0, 0, number, 1));
        CHECKS.yes("the highest power of the last", x.factor(2, 6, -1, 1));
        CHECKS.no("-1 is 32002", x.factor(2, 6, 32002, 1));
    }

    private static long inverse(long number) {
        for (long i = 1; i < P; i++) {
            if (number * i % P == 1) {
                return i;
            }
        }
        return 0;
    }

    private static void factorRefusals() {
        RecurrenceAnswers x = made(2, row(1, 2), row(3));
        x.run();
        Class<ArrayIndexOutOfBoundsException> noFactor = ArrayIndexOutOfBoundsException.class;
        CHECKS.thrown("shift -1", noFactor, () -> bit(x.factor(-1, 0, 1, 1)));
        CHECKS.thrown("shift 3", noFactor, () -> bit(x.factor(3, 0, 1, 1)));
        CHECKS.thrown("all wrong", noFactor, () -> bit(x.factor(3, 7, 1, 0)));
        CHECKS.thrown("shift least", noFactor, () -> bit(x.factor(Integer.MIN_VALUE, -1, 1, P)));
        CHECKS.thrown("shift greatest", noFactor, () -> bit(x.factor(Integer.MAX_VALUE, 0, 1, 1)));
        CHECKS.illegalArgument("power 7", () -> bit(x.factor(0, 7, 1, 1)));
        CHECKS.illegalArgument("power -1", () -> bit(x.factor(0, -1, 1, 1)));
        CHECKS.illegalArgument("power 7 below 0", () -> bit(x.factor(0, 7, 1, 0)));
        CHECKS.illegalArgument("power least", () -> bit(x.factor(0, Integer.MIN_VALUE, 1, 1)));
        CHECKS.thrown("below 0", ArithmeticException.class, () -> bit(x.factor(0, 0, 9, 0)));
        CHECKS.thrown("below P", ArithmeticException.class, () -> bit(x.factor(0, 0, 9, -P)));
        CHECKS.thrown("0 by 0", ArithmeticException.class, () -> bit(x.factor(0, 0, 0, 2L * P)));
        CHECKS.equal("the answers stay known", x.powers(), 0);
        CHECKS.no("nothing changed", x.factor(0, 0, 1, 1));
    }

    // Promise 3

    private static void rightNumbers() {
        RecurrenceAnswers x = made(1, row(1));
        CHECKS.yes("a first number", x.right(10, 5, 3));
        CHECKS.no("the same modulo", x.right(10, 10 - 6L * P, 6 + 3L * P));
        CHECKS.yes("another power", x.right(0, -1, 1));
        CHECKS.no("-1 is 32002", x.right(0, 32002, 1));
        x.run();
        CHECKS.equal("y is the right side", x.answer(-1, 0), 32002);
        CHECKS.equal("at 10 too", x.answer(-1, 10), 5 * 10668 % P);
        CHECKS.yes("back to 0", x.right(10, 0, 1));
        CHECKS.illegalState("right() loses the answers", x::polynomials);
    }

    private static void rightRefusals() {
        RecurrenceAnswers x = made(1, row(1));
        x.run();
        CHECKS.illegalArgument("power 11", () -> bit(x.right(11, 1, 1)));
        CHECKS.illegalArgument("power -1", () -> bit(x.right(-1, 1, 1)));
        CHECKS.illegalArgument("power 11 below 0", () -> bit(x.right(11, 1, 0)));
        CHECKS.thrown("below 0", ArithmeticException.class, () -> bit(x.right(0, 1, 0)));
        CHECKS.thrown("below -P", ArithmeticException.class, () -> bit(x.right(10, 1, -P)));
        CHECKS.equal("the answers stay known", x.polynomials(), 0);
        CHECKS.no("nothing changed", x.right(0, 0, 1));
    }

    // Promise 4

    private static void runAnswers() {
        RecurrenceAnswers x = new RecurrenceAnswers(3);
        CHECKS.equal("run() without factors", x.run(), 1);
        x.right(2, 1, 1);
        CHECKS.equal("a right side is no factor", x.run(), 1);
        CHECKS.illegalState("answered 1", x::powers);
        x.factor(3, 6, 1, 1);
        CHECKS.illegalState("not run yet", x::powers);
        CHECKS.equal("run() with a factor", x.run(), 0);
        CHECKS.equal("run() again", x.run(), 0);
        CHECKS.equal("known", x.powers(), 0);
        x.factor(3, 6, 0, 1);
        CHECKS.equal("run() without factors again", x.run(), 1);
        CHECKS.illegalState("answered 1 again", () -> bit(x.meets()));
    }

    private static void answersGetLost() {
        RecurrenceAnswers x = made(1, row(-1), row(1));
        x.run();
        CHECKS.no("no other number", x.factor(0, 0, -1, 1));
        CHECKS.equal("still known", x.polynomials(), 1);
        CHECKS.no("no other right side", x.right(0, 0, 1));
        CHECKS.equal("still known", x.polynomials(), 1);
        x.factor(0, 0, 1, 1);
        CHECKS.illegalState("lost", x::polynomials);
        x.factor(0, 0, -1, 1);
        CHECKS.illegalState("lost though it is as before", () -> x.answer(0, 0));
        CHECKS.illegalState("lost", () -> x.answer(-1, 0));
        CHECKS.illegalState("lost", () -> bit(x.meets()));
        CHECKS.illegalState("lost", x::powers);
        CHECKS.illegalState("lost", () -> x.base(0));
        CHECKS.illegalState("lost", () -> x.many(0));
        CHECKS.illegalState("lost", () -> x.times(0, 0, 0));
        x.run();
        CHECKS.equal("found again", x.polynomials(), 1);
    }

    /** The answers are made of the factors and the right side alone. */
    private static void startAndPutKeepAnswers() {
        RecurrenceAnswers x = made(1, row(-1), row(1));
        x.run();
        x.start(5);
        x.put(3, 5);
        x.rest(3);
        x.value(200);
        x.singular(0);
        CHECKS.equal("still known", x.polynomials(), 1);
        CHECKS.equal("still right", x.answer(0, 0), 1);
        CHECKS.equal("still right", x.base(0), 1);
    }

    // Promises 5, 6, 7

    private static void polynomialsAndAnswer() {
        // The third difference: 1, n and n^2.
        RecurrenceAnswers x = made(3, row(-1), row(3), row(-3), row(1));
        x.run();
        CHECKS.equal("how many", x.polynomials(), 3);
        for (int k = 0; k < 3; k++) {
            for (int power = 0; power <= 12; power++) {
                CHECKS.equal("answer " + k + ", " + power, x.answer(k, power), k == power ? 1 : 0);
            }
        }
        // n y(n + 1) = (n + 3) y(n): n (n + 1) (n + 2).
        RecurrenceAnswers rising = made(1, row(-3, -1), row(0, 1));
        rising.run();
        CHECKS.equal("how many", rising.polynomials(), 1);
        int[] due = {0, 2, 3, 1, 0, 0, 0, 0, 0, 0, 0, 0, 0};
        for (int power = 0; power <= 12; power++) {
            CHECKS.equal("rising " + power, rising.answer(0, power), due[power]);
        }
    }

    private static void answerRefusals() {
        RecurrenceAnswers x = made(1, row(-1), row(1));
        x.run();
        CHECKS.illegalArgument("k 1", () -> x.answer(1, 0));
        CHECKS.illegalArgument("k -2", () -> x.answer(-2, 0));
        CHECKS.illegalArgument("k least", () -> x.answer(Integer.MIN_VALUE, 0));
        CHECKS.illegalArgument("k greatest", () -> x.answer(Integer.MAX_VALUE, 0));
        CHECKS.illegalArgument("power 13", () -> x.answer(0, 13));
        CHECKS.illegalArgument("power -1", () -> x.answer(0, -1));
        CHECKS.illegalArgument("particular power 13", () -> x.answer(-1, 13));
        CHECKS.illegalArgument("particular power -1", () -> x.answer(-1, -1));
    }

    private static void meetsOrNot() {
        RecurrenceAnswers x = made(1, row(0, 1));
        x.run();
        CHECKS.yes("0 meets 0", x.meets());
        for (int power = 0; power <= 12; power++) {
            CHECKS.equal("the particular one is 0", x.answer(-1, power), 0);
        }
        x.right(0, 1, 1);
        x.run();
        CHECKS.no("n y = 1", x.meets());
        CHECKS.illegalArgument("no particular one", () -> x.answer(-1, 0));
        x.right(0, 0, 1);
        x.right(10, 1, 1);
        x.run();
        CHECKS.yes("n y = n^10", x.meets());
        CHECKS.equal("n^9", x.answer(-1, 9), 1);
        CHECKS.equal("no n^10", x.answer(-1, 10), 0);
    }

    private static void particularAvoidsHeads() {
        // y(n + 1) - y(n) = 1: n, whose constant is free and so 0.
        RecurrenceAnswers x = made(1, row(-1), row(1));
        x.right(0, 1, 1);
        x.run();
        CHECKS.yes("meets", x.meets());
        CHECKS.equal("0 at the head", x.answer(-1, 0), 0);
        CHECKS.equal("n", x.answer(-1, 1), 1);
        // n (n + 1) (n + 2) is the row of n y(n + 1) = (n + 3) y(n); with -2 n at the right side
        // n answers, and so does n + n (n + 1) (n + 2), which has 1 at the head.
        RecurrenceAnswers rising = made(1, row(-3, -1), row(0, 1));
        rising.right(1, -2, 1);
        rising.run();
        CHECKS.yes("meets", rising.meets());
        int[] due = {0, 1, 0, 0};
        for (int power = 0; power < due.length; power++) {
            CHECKS.equal("particular " + power, rising.answer(-1, power), due[power]);
        }
    }

    // Promises 8, 9, 10, 11

    private static void powersAndBases() {
        // (z - 5) (z - 2)^2 (z - 32002), the last one -1.
        RecurrenceAnswers x = made(4, row(20), row(-4), row(-15), row(8), row(-1));
        x.run();
        CHECKS.equal("how many", x.powers(), 3);
        CHECKS.equal("the least", x.base(0), 2);
        CHECKS.equal("then", x.base(1), 5);
        CHECKS.equal("the greatest", x.base(2), 32002);
        CHECKS.equal("none behind", x.base(3), -1);
        CHECKS.equal("none ahead", x.base(-1), -1);
        CHECKS.equal("none far behind", x.base(Integer.MAX_VALUE), -1);
        CHECKS.equal("none far ahead", x.base(Integer.MIN_VALUE), -1);
        CHECKS.equal("twice", x.many(0), 2);
        CHECKS.equal("once", x.many(1), 1);
        CHECKS.equal("once", x.many(2), 1);
        CHECKS.equal("none behind", x.many(3), -1);
        CHECKS.equal("none ahead", x.many(-1), -1);
        for (int power = 0; power <= 12; power++) {
            CHECKS.equal("2^n", x.times(0, 0, power), power == 0 ? 1 : 0);
            CHECKS.equal("2^n n", x.times(0, 1, power), power == 1 ? 1 : 0);
            CHECKS.equal("(-1)^n", x.times(2, 0, power), power == 0 ? 1 : 0);
        }
        CHECKS.equal("no polynomials", x.polynomials(), 0);
        // (n + 1) y(n + 1) = 7 (n + 2) y(n): 7^n (n + 1), whatever the right side is.
        RecurrenceAnswers seven = made(1, row(-14, -7), row(1, 1));
        seven.right(3, 1, 1);
        seven.run();
        CHECKS.equal("how many", seven.powers(), 1);
        CHECKS.equal("7", seven.base(0), 7);
        CHECKS.equal("n + 1 at 0", seven.times(0, 0, 0), 1);
        CHECKS.equal("n + 1 at 1", seven.times(0, 0, 1), 1);
        CHECKS.equal("n + 1 at 2", seven.times(0, 0, 2), 0);
        // 0 is no base: y(n + 1) = 0 has none.
        RecurrenceAnswers zero = made(1, row(), row(1));
        zero.run();
        CHECKS.equal("no base 0", zero.powers(), 0);
        CHECKS.equal("no base 0", zero.base(0), -1);
        CHECKS.equal("no base 0", zero.many(0), -1);
    }

    private static void timesRefusals() {
        RecurrenceAnswers x = made(1, row(-3), row(1));
        x.run();
        CHECKS.equal("3^n", x.times(0, 0, 0), 1);
        CHECKS.equal("the highest power", x.times(0, 0, 12), 0);
        CHECKS.illegalArgument("k 1", () -> x.times(1, 0, 0));
        CHECKS.illegalArgument("k -1", () -> x.times(-1, 0, 0));
        CHECKS.illegalArgument("k greatest", () -> x.times(Integer.MAX_VALUE, 0, 0));
        CHECKS.illegalArgument("i 1", () -> x.times(0, 1, 0));
        CHECKS.illegalArgument("i -1", () -> x.times(0, -1, 0));
        CHECKS.illegalArgument("i least", () -> x.times(0, Integer.MIN_VALUE, 0));
        CHECKS.illegalArgument("power 13", () -> x.times(0, 0, 13));
        CHECKS.illegalArgument("power -1", () -> x.times(0, 0, -1));
    }

    /** n y(n + 1) = (n + d) y(n) has the answer n (n + 1) .. (n + d - 1), of degree d. */
    private static void degreesUpToTwelve() {
        RecurrenceAnswers twelve = made(1, row(-12, -1), row(0, 1));
        twelve.run();
        CHECKS.equal("degree 12", twelve.polynomials(), 1);
        CHECKS.equal("monic", twelve.answer(0, 12), 1);
        CHECKS.equal("the sum of 1 .. 11", twelve.answer(0, 11), 66);
        CHECKS.equal("a base too", twelve.times(0, 0, 12), 1);
        RecurrenceAnswers thirteen = made(1, row(-13, -1), row(0, 1));
        thirteen.run();
        CHECKS.equal("not degree 13", thirteen.polynomials(), 0);
        CHECKS.equal("nor as a power", thirteen.powers(), 0);
    }

    // Promises 12, 13

    private static void starts() {
        RecurrenceAnswers x = made(1, row(-1), row(1));
        for (int i = 0; i < 12; i++) {
            CHECKS.yes("start " + i, x.start(100 + i));
        }
        CHECKS.no("start 12", x.start(5));
        CHECKS.no("start 13", x.start(5));
        for (int i = 0; i < 12; i++) {
            CHECKS.equal("value " + i, x.value(i), 100 + i);
        }
        CHECKS.equal("goes on from the last", x.value(12), 111);
        RecurrenceAnswers modulo = made(1, row(-1), row(1));
        modulo.start(-1);
        modulo.start(Long.MIN_VALUE);
        modulo.start(P);
        CHECKS.equal("-1", modulo.value(0), 32002);
        CHECKS.equal("the least long", modulo.value(1), modulo(Long.MIN_VALUE));
        CHECKS.equal("32003", modulo.value(2), 0);
    }

    private static void values() {
        RecurrenceAnswers x = made(2, row(-1), row(-1), row(1));
        CHECKS.equal("no starts", x.value(0), -1);
        x.start(0);
        CHECKS.equal("too few starts", x.value(0), -1);
        x.start(1);
        long a = 0;
        long b = 1;
        for (int n = 0; n <= 300; n++) {
            CHECKS.equal("Fibonacci " + n, x.value(n), a);
            long next = (a + b) % P;
            a = b;
            b = next;
        }
        CHECKS.illegalArgument("n 301", () -> x.value(301));
        CHECKS.illegalArgument("n -1", () -> x.value(-1));
        CHECKS.illegalArgument("n least", () -> x.value(Integer.MIN_VALUE));
        RecurrenceAnswers none = new RecurrenceAnswers(1);
        none.start(4);
        CHECKS.equal("all factors 0", none.value(0), -1);
        CHECKS.illegalArgument("n 301 even so", () -> none.value(301));
        // (n + 1) y(n + 1) = (2 n + 3) y(n) + n^2 and y(0) = 1: 3, 8, 20.
        RecurrenceAnswers sided = made(1, row(-3, -2), row(1, 1));
        sided.right(2, 1, 1);
        sided.start(1);
        CHECKS.equal("y(1)", sided.value(1), 3);
        CHECKS.equal("y(2)", sided.value(2), 8);
        CHECKS.equal("y(3)", sided.value(3), 20);
    }

    private static void valuesStopAtZeros() {
        // (n - 2) y(n + 1) = y(n): y(3) is not known.
        RecurrenceAnswers x = made(1, row(-1), row(-2, 1));
        x.start(2);
        CHECKS.equal("y(1)", x.value(1), P - 1);
        CHECKS.equal("y(2)", x.value(2), 1);
        CHECKS.equal("y(3)", x.value(3), -1);
        CHECKS.equal("y(4)", x.value(4), -1);
        CHECKS.equal("y(300)", x.value(300), -1);
        CHECKS.equal("y(2) still", x.value(2), 1);
        x.start(3);
        x.start(4);
        CHECKS.equal("y(3) is no start", x.value(3), -1);
        x.start(6);
        CHECKS.equal("y(3) is a start", x.value(3), 6);
        CHECKS.equal("y(4) goes on", x.value(4), 6);
        CHECKS.equal("y(5) goes on", x.value(5), 3);
    }

    private static void valuesOfOneFactor() {
        // (n - 3) y(n) = n: known without starts up to y(2).
        RecurrenceAnswers x = made(2, row(-3, 1));
        x.right(1, 1, 1);
        CHECKS.equal("y(0)", x.value(0), 0);
        CHECKS.equal("y(2)", x.value(2), P - 2);
        CHECKS.equal("y(3)", x.value(3), -1);
        CHECKS.equal("y(4)", x.value(4), -1);
        x.start(50);
        CHECKS.equal("the start", x.value(0), 50);
        CHECKS.equal("y(2) again", x.value(2), P - 2);
        x.start(51);
        x.start(52);
        x.start(53);
        CHECKS.equal("the start at the zero", x.value(3), 53);
        CHECKS.equal("behind it", x.value(4), 4);
        // y(n + 2) alone: two starts, then what the right side says.
        RecurrenceAnswers shifted = made(2, row(), row(), row(1));
        shifted.right(1, 1, 1);
        shifted.start(9);
        CHECKS.equal("too few", shifted.value(2), -1);
        shifted.start(9);
        CHECKS.equal("y(2)", shifted.value(2), 0);
        CHECKS.equal("y(7)", shifted.value(7), 5);
    }

    private static void valuesFollowChanges() {
        RecurrenceAnswers x = made(2, row(-2), row(1));
        x.start(1);
        CHECKS.equal("2^5", x.value(5), 32);
        x.factor(0, 0, -3, 1);
        CHECKS.equal("3^5", x.value(5), 243);
        x.right(0, 1, 1);
        CHECKS.equal("with a right side", x.value(2), 13);
        x.start(0);
        CHECKS.equal("another start", x.value(2), 1);
        x.factor(2, 0, 1, 1);
        CHECKS.equal("y(2) of y(0) and y(1)", x.value(2), 1 + 3);
        x.factor(2, 0, 0, 1);
        x.factor(1, 0, 0, 1);
        x.factor(0, 0, 0, 1);
        CHECKS.equal("without factors", x.value(0), -1);
    }

    // Promise 14

    private static void singulars() {
        // (n - 1) (n - 2) (n - 3) (n - 4) (n - 5) n.
        RecurrenceAnswers x = made(2, row(1, 1), row(0, -120, 274, -225, 85, -15, 1));
        for (int k = 0; k <= 5; k++) {
            CHECKS.equal("singular " + k, x.singular(k), k);
        }
        CHECKS.equal("none behind", x.singular(6), -1);
        CHECKS.equal("none ahead", x.singular(-1), -1);
        CHECKS.equal("none far behind", x.singular(Integer.MAX_VALUE), -1);
        CHECKS.equal("none far ahead", x.singular(Integer.MIN_VALUE), -1);
        // A greater factor takes its place: (n + 1)^2 (n - 7).
        x.factor(2, 3, 1, 1);
        x.factor(2, 2, -5, 1);
        x.factor(2, 1, -13, 1);
        x.factor(2, 0, -7, 1);
        CHECKS.equal("the least", x.singular(0), 7);
        CHECKS.equal("a double one once", x.singular(1), 32002);
        CHECKS.equal("none behind", x.singular(2), -1);
        // n^2 + 1 has no zeros, as 32003 is 3 modulo 4; nor has a number.
        RecurrenceAnswers none = made(1, row(0, 1), row(1, 0, 1));
        CHECKS.equal("no zeros", none.singular(0), -1);
        none.factor(1, 2, 0, 1);
        CHECKS.equal("a number", none.singular(0), -1);
        none.factor(1, 0, 0, 1);
        CHECKS.equal("the other factor", none.singular(0), 0);
        none.factor(0, 1, 0, 1);
        CHECKS.equal("no factors", none.singular(0), -1);
        // n^6 alone.
        CHECKS.equal("0 once", made(1, row(0, 0, 0, 0, 0, 0, 1)).singular(0), 0);
        CHECKS.equal("0 once", made(1, row(0, 0, 0, 0, 0, 0, 1)).singular(1), -1);
    }

    // Promise 15

    private static void ends() {
        RecurrenceAnswers x = new RecurrenceAnswers(4);
        x.right(0, 1, 1);
        CHECKS.equal("none", x.end(0), -1);
        CHECKS.equal("none", x.end(1), -1);
        x.factor(2, 6, 1, 1);
        CHECKS.equal("only 2", x.end(0), 2);
        CHECKS.equal("only 2", x.end(1), 2);
        x.factor(4, 0, 1, 1);
        x.factor(1, 3, 1, 1);
        CHECKS.equal("least", x.end(0), 1);
        CHECKS.equal("greatest", x.end(1), 4);
        x.factor(1, 3, 0, 1);
        x.factor(4, 0, P, 1);
        CHECKS.equal("2 again", x.end(0), 2);
        CHECKS.equal("2 again", x.end(1), 2);
        x.factor(0, 0, 1, 1);
        CHECKS.equal("a number counts", x.end(0), 0);
        CHECKS.equal("the last alone", made(4, row(), row(), row(), row(), row(0, 1)).end(0), 4);
        CHECKS.equal("the first alone", made(4, row(5)).end(1), 0);
        CHECKS.illegalArgument("which 2", () -> x.end(2));
        CHECKS.illegalArgument("which -1", () -> x.end(-1));
        CHECKS.illegalArgument("which on a new one", () -> new RecurrenceAnswers(1).end(3));
    }

    // Promises 16, 17

    private static void restAndPut() {
        RecurrenceAnswers x = made(2, row(0, 1), row(), row(2));
        CHECKS.yes("another", x.put(2, 3));
        CHECKS.no("the same", x.put(2, 3));
        CHECKS.no("the same modulo", x.put(2, 3 - P));
        CHECKS.yes("another", x.put(0, -1));
        CHECKS.no("-1 is 32002", x.put(0, 32002));
        CHECKS.yes("the least", x.put(1, Integer.MIN_VALUE));
        CHECKS.no("the least modulo", x.put(1, modulo(Integer.MIN_VALUE)));
        CHECKS.yes("0", x.put(1, P));
        x.right(1, 4, 1);
        x.right(10, 1, 1);
        // n (3 n^2 - 1) + 2 (3 (n + 2)^2 - 1) - 4 n - n^10 = 3 n^3 + 6 n^2 + 19 n + 22 - n^10.
        int[] due = {22, 19, 6, 3, 0, 0, 0, 0, 0, 0, P - 1, 0, 0, 0, 0, 0, 0, 0, 0};
        for (int power = 0; power <= 18; power++) {
            CHECKS.equal("rest " + power, x.rest(power), due[power]);
        }
        x.factor(1, 6, 1, 1);
        x.put(12, 5);
        CHECKS.equal("the highest power", x.rest(18), 5);
        CHECKS.equal("the next one", x.rest(17), 60);
        CHECKS.illegalArgument("rest 19", () -> x.rest(19));
        CHECKS.illegalArgument("rest -1", () -> x.rest(-1));
        CHECKS.illegalArgument("put 13", () -> bit(x.put(13, 0)));
        CHECKS.illegalArgument("put -1", () -> bit(x.put(-1, 0)));
        CHECKS.illegalArgument("put greatest", () -> bit(x.put(Integer.MAX_VALUE, 0)));
        CHECKS.no("nothing changed", x.put(12, 5));
        RecurrenceAnswers none = new RecurrenceAnswers(1);
        none.right(3, 2, 1);
        none.put(3, 9);
        CHECKS.equal("without factors", none.rest(3), P - 2);
        CHECKS.equal("without factors", none.rest(4), 0);
    }

    // Promise 18

    private static void clearing() {
        RecurrenceAnswers x = made(3, row(-1), row(0, 1), row(), row(1));
        x.right(4, 1, 1);
        x.run();
        x.put(5, 5);
        for (int i = 0; i < 12; i++) {
            x.start(7);
        }
        x.value(20);
        x.singular(0);
        x.clear();
        CHECKS.illegalState("the answers", x::polynomials);
        CHECKS.equal("no factors", x.end(1), -1);
        CHECKS.equal("no factors", x.run(), 1);
        CHECKS.equal("nothing singular", x.singular(0), -1);
        CHECKS.no("right", x.right(4, 0, 1));
        CHECKS.no("put", x.put(5, 0));
        CHECKS.yes("the order stays", x.factor(3, 1, 1, 1));
        CHECKS.thrown("the order stays", ArrayIndexOutOfBoundsException.class,
                () -> bit(x.factor(4, 0, 1, 1)));
        CHECKS.equal("singular anew", x.singular(0), 0);
        x.clear();
        x.factor(1, 0, 1, 1);
        CHECKS.equal("no starts", x.value(0), -1);
        CHECKS.yes("room for starts", x.start(3));
        CHECKS.equal("the new start", x.value(0), 3);
        CHECKS.equal("behind it", x.value(1), 0);
        CHECKS.equal("rest", x.rest(5), 0);
        x.clear();
        x.clear();
        CHECKS.equal("cleared twice", x.run(), 1);
    }
}
