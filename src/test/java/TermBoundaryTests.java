import java.math.BigInteger;

/** The boundary cases of the document's head and of its Terms, a method for each sentence. */
public final class TermBoundaryTests extends Equations {

    private static final Checks CHECKS = new Checks();
    private static final long[] NUMBERS = {0, 1, 2, P - 2, P - 1, P, P + 1, 2L * P - 1, 2L * P,
        -1, -2, 1 - P, -P, -P - 1, -2L * P, 16001, 16002, -16001, -16002,
        Integer.MAX_VALUE, Integer.MIN_VALUE, Integer.MAX_VALUE + 1L, Integer.MIN_VALUE - 1L,
        Long.MAX_VALUE, Long.MAX_VALUE - 1, Long.MIN_VALUE, Long.MIN_VALUE + 1,
        Long.MAX_VALUE - Long.MAX_VALUE % P, Long.MIN_VALUE - Long.MIN_VALUE % P};

    public static void main(String[] args) {
        lastOf512Calls();
        numbersTold();
        numbersBelow();
        numbersAnswered();
        greatestNumbersMultiply();
        degreesOfFactors();
        degreesOfRightSide();
        zeroAtFirst();
        rowOfNone();
        rowDegrees();
        rowMonic();
        rowZeroAtOtherHeads();
        rowLeastHeadFirst();
        answersIfSomeFactor();
        rowWithZeroAsRightSide();
        particularDegrees();
        particularZeroAtHeads();
        particularNone();
        particularOfZero();
        powersLeastAndGreatest();
        powersInOrder();
        powersDegrees();
        powersWithZeroAsRightSide();
        powersRows();
        valuesFromEnoughStarts();
        valuesOfTheGreatestFactor();
        valuesOfEachPower();
        valuesUpToAZero();
        valuesUpToAZeroOfOthers();
        startsAtAZero();
        startsBehindAZero();
        secondZero();
        CHECKS.finish();
    }

    // The head

    private static void lastOf512Calls() {
        CHECKS.about("An object is used for at most 512 calls");
        RecurrenceAnswers changed = new RecurrenceAnswers(4);
        for (int call = 1; call <= 510; call += 2) {
            changed.factor(call % 5, call % 7, call, 1);
            CHECKS.equal("call " + (call + 1), changed.run(), 0);
        }
        CHECKS.equal("call 511", changed.end(1), 4);
        CHECKS.equal("call 512", changed.powers(), 0);

        RecurrenceAnswers fibonacci = equation(2, row(-1), row(-1), row(1));
        fibonacci.start(0);
        fibonacci.start(1);
        for (int call = 6; call <= 511; call++) {
            fibonacci.value(call % 301);
        }
        CHECKS.equal("call 512", fibonacci.value(20), 6765);

        RecurrenceAnswers refused = new RecurrenceAnswers(1);
        for (int call = 1; call <= 511; call++) {
            CHECKS.illegalState("call " + call, refused::powers);
        }
        CHECKS.yes("call 512", refused.factor(1, 6, 1, 1));

        RecurrenceAnswers cleared = new RecurrenceAnswers(1);
        for (int call = 1; call <= 510; call += 2) {
            CHECKS.yes("call " + call, cleared.start(call));
            cleared.clear();
        }
        CHECKS.yes("call 511", cleared.put(12, 1));
        CHECKS.no("call 512", cleared.put(12, 1));
    }

    // NUMBERS

    private static void numbersTold() {
        CHECKS.about("NUMBERS are modulo 32003, 0 .. 32002");
        for (long v : NUMBERS) {
            int due = modulo(v);
            RecurrenceAnswers x = new RecurrenceAnswers(1);
            CHECKS.equal("factor of " + v, bit(x.factor(1, 6, v, 1)), due == 0 ? 0 : 1);
            CHECKS.no("factor of " + v + " is not " + due, x.factor(1, 6, due, 1));
            CHECKS.yes("factor of " + v + " is " + (due + 1), x.factor(1, 6, due + 1, 1));
            CHECKS.equal("right of " + v, bit(x.right(10, v, 1)), due == 0 ? 0 : 1);
            CHECKS.no("right of " + v + " is not " + due, x.right(10, due, 1));
            CHECKS.equal("rest less " + v, x.rest(10), modulo(-due));
            CHECKS.yes("right of " + v + " is " + (due - 1), x.right(10, due - 1, 1));
            x.start(v);
            x.factor(1, 6, 1, 1);
            CHECKS.equal("start of " + v, x.value(0), due);
        }
        for (long v : NUMBERS) {
            if (v != (int) v) {
                continue;
            }
            int due = modulo(v);
            RecurrenceAnswers x = equation(1, row(1));
            CHECKS.equal("put of " + v, bit(x.put(12, (int) v)), due == 0 ? 0 : 1);
            CHECKS.no("put of " + v + " is not " + due, x.put(12, due));
            CHECKS.equal("rest with " + v, x.rest(12), due);
            CHECKS.yes("put of " + v + " is " + (due + 1), x.put(12, due + 1));
        }
    }

    private static void numbersBelow() {
        CHECKS.about("above through below modulo 32003");
        BigInteger prime = BigInteger.valueOf(P);
        for (long below : NUMBERS) {
            if (modulo(below) == 0) {
                continue;
            }
            long inverse = BigInteger.valueOf(below).modInverse(prime).longValue();
            for (long above : NUMBERS) {
                long due = modulo(above) * inverse % P;
                RecurrenceAnswers x = new RecurrenceAnswers(1);
                x.factor(0, 0, above, below);
                x.right(0, above, below);
                String what = above + " through " + below + " is not " + due;
                CHECKS.no("factor, " + what, x.factor(0, 0, due, 1));
                CHECKS.no("right, " + what, x.right(0, due, 1));
            }
        }
    }

    private static void numbersAnswered() {
        CHECKS.about("NUMBERS are 0 .. 32002, when they are answered too");
        // (n - 1) y(n + 1) = z n y(n): z^n (n - 1).
        RecurrenceAnswers one = ran(risingEquation(1, -1, 1));
        answerIs(CHECKS, "n - 1", one, 0, P - 1, 1);
        RecurrenceAnswers minus = ran(risingEquation(-1, -1, 1));
        CHECKS.equal("-1", minus.base(0), P - 1);
        timesIs(CHECKS, "n - 1", minus, 0, 0, P - 1, 1);
        // y(n) = -1, told as a particular one, as a value and as a rest.
        RecurrenceAnswers x = equation(1, row(1));
        x.right(0, -1, 1);
        x.run();
        CHECKS.equal("answer", x.answer(-1, 0), P - 1);
        CHECKS.equal("value", x.value(0), P - 1);
        CHECKS.equal("rest", x.rest(0), 1);
        x.right(0, 1, 1);
        CHECKS.equal("rest", x.rest(0), P - 1);
        x.put(0, 1);
        CHECKS.equal("rest", x.rest(0), 0);
        CHECKS.equal("value", x.value(0), 1);
        x.right(0, P, 1);
        CHECKS.equal("value", x.value(0), 0);
        CHECKS.equal("the least singular", equation(1, row(0, 1)).singular(0), 0);
        CHECKS.equal("the greatest singular", equation(1, row(1, 1)).singular(0), P - 1);
    }

    /** Products of the greatest numbers come nearest to the end of an int. */
    private static void greatestNumbersMultiply() {
        CHECKS.about("NUMBERS are modulo 32003, the greatest ones multiplied");
        RecurrenceAnswers x = new RecurrenceAnswers(4);
        for (int power = 0; power <= 6; power++) {
            x.factor(0, power, P - 1, 1);
        }
        for (int power = 0; power <= 12; power++) {
            x.put(power, P - 1);
        }
        for (int power = 0; power <= 18; power++) {
            int pairs = Math.min(power, 6) - Math.max(0, power - 12) + 1;
            CHECKS.equal("rest " + power, x.rest(power), pairs);
        }
        // y(n + 4) = - y(n) - .. - y(n + 3), from -1 on: four times -1, then 4, then again.
        RecurrenceAnswers five = equation(4, row(-1), row(-1), row(-1), row(-1), row(-1));
        for (int i = 0; i < 4; i++) {
            five.start(-1);
        }
        for (int n = 0; n <= 50; n++) {
            CHECKS.equal("value " + n, five.value(n), n % 5 == 4 ? 4 : P - 1);
        }
    }

    // POLYNOMIALS and THE EQUATION

    private static void degreesOfFactors() {
        CHECKS.about("FACTORS are polynomials of degrees up to 6");
        for (int order = 1; order <= 4; order++) {
            for (int shift = 0; shift <= order; shift++) {
                for (int power = 0; power <= 6; power++) {
                    RecurrenceAnswers x = new RecurrenceAnswers(order);
                    CHECKS.yes("taken", x.factor(shift, power, 5, 1));
                    x.put(0, 1);
                    for (int at = 0; at <= 18; at++) {
                        CHECKS.equal("factor " + shift + ", " + power + ": rest " + at,
                                x.rest(at), at == power ? 5 : 0);
                    }
                }
            }
        }
    }

    private static void degreesOfRightSide() {
        CHECKS.about("the RIGHT SIDE one up to 10");
        for (int power = 0; power <= 10; power++) {
            RecurrenceAnswers x = new RecurrenceAnswers(1);
            CHECKS.yes("taken", x.right(power, 5, 1));
            for (int at = 0; at <= 18; at++) {
                CHECKS.equal("right " + power + ": rest " + at, x.rest(at),
                        at == power ? P - 5 : 0);
            }
        }
    }

    private static void zeroAtFirst() {
        CHECKS.about("all are 0 at first");
        for (int order = 1; order <= 4; order++) {
            RecurrenceAnswers x = new RecurrenceAnswers(order);
            for (int power = 0; power <= 12; power++) {
                x.put(power, 1);
            }
            for (int power = 0; power <= 18; power++) {
                CHECKS.equal("rest " + power, x.rest(power), 0);
            }
            for (int shift = 0; shift <= order; shift++) {
                for (int power = 0; power <= 6; power++) {
                    CHECKS.no("factor " + shift + ", " + power, x.factor(shift, power, 0, 1));
                }
            }
            for (int power = 0; power <= 10; power++) {
                CHECKS.no("right " + power, x.right(power, 0, 1));
            }
        }
    }

    // A ROW

    private static void rowOfNone() {
        CHECKS.about("all answers of which are sums of numbers times those in the ROW");
        CHECKS.equal("y(n) = 0", ran(equation(1, row(1))).polynomials(), 0);
        CHECKS.equal("n^6 y(n + 4) = 0", ran(equation(4, row(), row(), row(), row(),
                row(0, 0, 0, 0, 0, 0, 1))).polynomials(), 0);
        CHECKS.equal("y(n + 1) = 2 y(n)", ran(steps(1, 2)).polynomials(), 0);
        for (int times = 1; times <= 4; times++) {
            CHECKS.equal(times + " steps less 1", ran(steps(times, 1)).polynomials(), times);
        }
    }

    private static void rowDegrees() {
        CHECKS.about("of degrees up to 12");
        for (int from : new int[] {-20, -1, 0, 1, 16000}) {
            for (int degree = 0; degree <= 12; degree++) {
                RecurrenceAnswers x = ran(risingEquation(1, from, degree));
                CHECKS.equal("degree " + degree, x.polynomials(), 1);
                answerIs(CHECKS, "degree " + degree, x, 0, rising(from, degree));
            }
            CHECKS.equal("degree 13", ran(risingEquation(1, from, 13)).polynomials(), 0);
            CHECKS.equal("degree 14", ran(risingEquation(1, from, 14)).polynomials(), 0);
        }
    }

    private static void rowMonic() {
        CHECKS.about("they are MONIC");
        // (3 n + 1) y(n + 1) = (3 n + 4) y(n): 3 n + 1, with 1 at its head n + 1 / 3.
        RecurrenceAnswers third = ran(equation(1, row(-4, -3), row(1, 3)));
        answerIs(CHECKS, "n + 1 / 3", third, 0, 10668, 1);
        // A number alone is monic as 1.
        answerIs(CHECKS, "1", ran(equation(1, row(-7), row(7))), 0, 1);
        // (1 - 2 n) y(n + 1) = - (1 + 2 n) y(n): 2 n - 1, with 1 at its head n - 1 / 2.
        RecurrenceAnswers half = ran(equation(1, row(1, 2), row(1, -2)));
        answerIs(CHECKS, "n - 1 / 2", half, 0, -16002, 1);
    }

    /** The difference d(n) of an answer meets (n + a) d(n + 1) = (n + a + degree - 1) d(n). */
    private static RecurrenceAnswers constantAndRising(int a, int degree) {
        int b = a + degree - 1;
        return ran(equation(2, row(b, 1), row(-a - b, -2), row(a, 1)));
    }

    private static void rowZeroAtOtherHeads() {
        CHECKS.about("their HEADS are different ones, each has 0 at the HEADS of the others");
        for (int degree = 2; degree <= 12; degree++) {
            // rising(1, degree) answers it, and so does each number.
            RecurrenceAnswers x = constantAndRising(2, degree);
            CHECKS.equal("1 and degree " + degree, x.polynomials(), 2);
            answerIs(CHECKS, "1", x, 0, 1);
            long[] due = rising(1, degree);
            due[0] = 0;
            answerIs(CHECKS, "degree " + degree, x, 1, due);
        }
        RecurrenceAnswers thirteen = constantAndRising(2, 13);
        CHECKS.equal("1 alone", thirteen.polynomials(), 1);
        answerIs(CHECKS, "1", thirteen, 0, 1);
        // n and n^2, and so n^2 + n too, answer
        // (n + 1) (n + 2) y(n) - 2 n (n + 2) y(n + 1) + n (n + 1) y(n + 2) = 0.
        RecurrenceAnswers two = ran(equation(2, row(2, 3, 1), row(0, -4, -2), row(0, 1, 1)));
        CHECKS.equal("n and n^2", two.polynomials(), 2);
        answerIs(CHECKS, "n", two, 0, 0, 1);
        answerIs(CHECKS, "n^2", two, 1, 0, 0, 1);
    }

    private static void rowLeastHeadFirst() {
        CHECKS.about("the least HEAD comes first");
        for (int times = 1; times <= 4; times++) {
            RecurrenceAnswers x = ran(steps(times, 1));
            for (int k = 0; k < times; k++) {
                long[] due = new long[k + 1];
                due[k] = 1;
                answerIs(CHECKS, times + " steps less 1", x, k, due);
            }
        }
    }

    // THE ANSWERS

    private static void answersIfSomeFactor() {
        CHECKS.about("THE ANSWERS, if some FACTOR isn't 0");
        for (int shift = 0; shift <= 4; shift++) {
            for (int power = 0; power <= 6; power++) {
                for (long number : new long[] {1, P - 1}) {
                    RecurrenceAnswers x = new RecurrenceAnswers(4);
                    CHECKS.equal("none yet", x.run(), 1);
                    x.factor(shift, power, number, 1);
                    CHECKS.equal(number + " at " + shift + ", " + power, x.run(), 0);
                    CHECKS.equal("none answers", x.polynomials() + x.powers(), 0);
                    x.factor(shift, power, P, 1);
                    CHECKS.equal("none any more", x.run(), 1);
                    CHECKS.illegalState("not known", x::polynomials);
                }
            }
        }
    }

    private static void rowWithZeroAsRightSide() {
        CHECKS.about("(1) the ROW of the EQUATION with 0 as right side");
        RecurrenceAnswers x = risingEquation(1, 1, 12);
        for (int power = 0; power <= 10; power++) {
            x.right(power, power + 1, 1);
        }
        x.run();
        CHECKS.equal("whatever the right side is", x.polynomials(), 1);
        answerIs(CHECKS, "whatever the right side is", x, 0, rising(1, 12));
    }

    private static void particularDegrees() {
        CHECKS.about("(2) The PARTICULAR one: the polynomial of a degree up to 12");
        // So many differences of the answer are n^power: its head is n^(power + times).
        for (int times = 1; times <= 4; times++) {
            for (int power = 0; power <= 10; power++) {
                RecurrenceAnswers x = steps(times, 1);
                x.right(power, 1, 1);
                x.run();
                int head = power + times;
                CHECKS.equal(times + " differences, n^" + power, bit(x.meets()),
                        head <= 12 ? 1 : 0);
                if (head > 12) {
                    CHECKS.illegalArgument("none", () -> x.answer(-1, 0));
                    continue;
                }
                long product = 1;
                for (int i = power + 1; i <= head; i++) {
                    product = product * i;
                }
                CHECKS.equal("at the head", modulo(product * x.answer(-1, head)), 1);
                for (int above = head + 1; above <= 12; above++) {
                    CHECKS.equal("above the head", x.answer(-1, above), 0);
                }
                putIn(x, -1);
                for (int at = 0; at <= 18; at++) {
                    CHECKS.equal("it answers", x.rest(at), 0);
                }
            }
        }
    }

    private static void putIn(RecurrenceAnswers x, int k) {
        for (int power = 0; power <= 12; power++) {
            x.put(power, x.answer(k, power));
        }
    }

    private static void particularZeroAtHeads() {
        CHECKS.about("that answers the EQUATION and has 0 at the HEADS of that ROW");
        for (int times = 1; times <= 4; times++) {
            RecurrenceAnswers x = steps(times, 1);
            x.right(8, 1, 1);
            x.run();
            for (int head = 0; head < times; head++) {
                CHECKS.equal("0 at " + head, x.answer(-1, head), 0);
            }
            CHECKS.no("0 at no head", x.answer(-1, times) == 0);
        }
        // n y(n + 1) - (n + 3) y(n) is - 2 n for n, and for n + n (n + 1) (n + 2).
        RecurrenceAnswers x = risingEquation(1, 0, 3);
        x.right(1, -2, 1);
        x.run();
        answerIs(CHECKS, "0 at 3", x, -1, 0, 1);
        // n y(n + 1) - (n + 12) y(n) is - 11 n for n, - 12 for 1.
        RecurrenceAnswers twelve = risingEquation(1, 0, 12);
        twelve.right(0, -12, 1);
        twelve.right(1, -11, 1);
        twelve.run();
        CHECKS.equal("0 at 12", twelve.answer(-1, 12), 0);
        answerIs(CHECKS, "n + 1", twelve, -1, 1, 1);
    }

    private static void particularNone() {
        CHECKS.about("there may be none");
        for (int power = 0; power <= 10; power++) {
            // n^6 y(n) = n^power.
            RecurrenceAnswers x = equation(1, row(0, 0, 0, 0, 0, 0, 1));
            x.right(power, 1, 1);
            x.run();
            CHECKS.equal("n^6 y(n) = n^" + power, bit(x.meets()), power >= 6 ? 1 : 0);
            if (power >= 6) {
                long[] due = new long[power - 5];
                due[power - 6] = 1;
                answerIs(CHECKS, "the quotient", x, -1, due);
            } else {
                CHECKS.illegalArgument("none", () -> x.answer(-1, 0));
            }
            CHECKS.equal("the row is empty", x.polynomials(), 0);
        }
    }

    private static void particularOfZero() {
        CHECKS.about("(2) The PARTICULAR one, if the right side is 0");
        RecurrenceAnswers none = ran(equation(1, row(0, 1)));
        CHECKS.yes("an empty row", none.meets());
        answerIs(CHECKS, "an empty row", none, -1);
        RecurrenceAnswers four = ran(steps(4, 1));
        CHECKS.yes("a row of four", four.meets());
        answerIs(CHECKS, "a row of four", four, -1);
        RecurrenceAnswers twelve = ran(risingEquation(1, 1, 12));
        CHECKS.yes("head 12", twelve.meets());
        answerIs(CHECKS, "head 12", twelve, -1);
    }

    // POWERS

    private static void powersLeastAndGreatest() {
        CHECKS.about("(3) POWERS: all z from 1 to 32002");
        for (long z : new long[] {1, 2, 16001, 16002, P - 2, P - 1}) {
            RecurrenceAnswers x = ran(steps(1, z));
            CHECKS.equal("one z", x.powers(), 1);
            CHECKS.equal("z", x.base(0), z);
            timesIs(CHECKS, "z^n", x, 0, 0, 1);
            CHECKS.equal("z is 1", x.polynomials(), z == 1 ? 1 : 0);
        }
        CHECKS.equal("not 0: y(n + 1) = 0", ran(steps(1, 0)).powers(), 0);
        CHECKS.equal("not 0: y(n + 4) = 0", ran(steps(4, 0)).powers(), 0);
        CHECKS.equal("not 0 as 32003", ran(steps(1, P)).powers(), 0);
        RecurrenceAnswers besideZero = ran(stepsWith(0, 1, 0, P - 1));
        CHECKS.equal("0 beside others", besideZero.powers(), 2);
        CHECKS.equal("1", besideZero.base(0), 1);
        CHECKS.equal("32002", besideZero.base(1), P - 1);
        // z^2 = -1 has no answer, as 32003 is 3 modulo 4.
        CHECKS.equal("no z at all", ran(equation(2, row(1), row(), row(1))).powers(), 0);
    }

    private static void powersInOrder() {
        CHECKS.about("POWERS: all z, in order");
        long[][] told = {{P - 1, 1}, {P - 2, 2, 1}, {P - 1, P - 2, 2, 1}, {3, P - 1, 1, 16001},
            {9, 8, 7, 6}, {16002, 16001, 16000, 16003}, {5, 5, 4, 4}, {2, 1, 1, 1}};
        for (long[] zs : told) {
            long[] due = java.util.Arrays.stream(zs).sorted().distinct().toArray();
            RecurrenceAnswers x = ran(stepsWith(zs));
            CHECKS.equal("how many", x.powers(), due.length);
            for (int k = 0; k < due.length; k++) {
                CHECKS.equal("the " + k + "-th", x.base(k), due[k]);
                int at = k;
                CHECKS.equal("its row", x.many(k),
                        java.util.Arrays.stream(zs).filter(z -> z == due[at]).count());
            }
        }
    }

    private static void powersDegrees() {
        CHECKS.about("polynomials q of degrees up to 12 that aren't 0");
        for (long z : new long[] {1, 2, P - 1}) {
            for (int degree = 0; degree <= 12; degree++) {
                RecurrenceAnswers x = ran(risingEquation(z, 1, degree));
                CHECKS.equal("degree " + degree, x.powers(), 1);
                CHECKS.equal("degree " + degree, x.base(0), z);
                CHECKS.equal("degree " + degree, x.many(0), 1);
                timesIs(CHECKS, "degree " + degree, x, 0, 0, rising(1, degree));
            }
            RecurrenceAnswers thirteen = ran(risingEquation(z, 1, 13));
            CHECKS.equal("degree 13", thirteen.powers(), 0);
            CHECKS.equal("degree 13", thirteen.base(0), -1);
        }
    }

    private static void powersWithZeroAsRightSide() {
        CHECKS.about("answers the EQUATION with 0 as right side");
        RecurrenceAnswers x = risingEquation(7, 1, 2);
        for (int power = 0; power <= 10; power++) {
            x.right(power, 1, 1);
        }
        x.run();
        CHECKS.equal("whatever the right side is", x.powers(), 1);
        CHECKS.equal("z", x.base(0), 7);
        timesIs(CHECKS, "(n + 1) (n + 2)", x, 0, 0, 2, 3, 1);
    }

    private static void powersRows() {
        CHECKS.about("of each such z the ROW of those q");
        for (long z : new long[] {1, 2, P - 1}) {
            for (int times = 1; times <= 4; times++) {
                RecurrenceAnswers x = ran(steps(times, z));
                CHECKS.equal("one z", x.powers(), 1);
                CHECKS.equal("its row", x.many(0), times);
                for (int i = 0; i < times; i++) {
                    long[] due = new long[i + 1];
                    due[i] = 1;
                    timesIs(CHECKS, "n^" + i, x, 0, i, due);
                }
            }
        }
        // 2^n and 2^n rising(1, 12), the head of the first being 0.
        RecurrenceAnswers x = ran(equation(2, row(4 * 13, 4), row(-2 * 15, -4), row(2, 1)));
        CHECKS.equal("1 and degree 12", x.many(0), 2);
        timesIs(CHECKS, "1", x, 0, 0, 1);
        long[] due = rising(1, 12);
        due[0] = 0;
        timesIs(CHECKS, "degree 12", x, 0, 1, due);
    }

    // STARTS and VALUES

    private static void valuesFromEnoughStarts() {
        CHECKS.about("at least m STARTS");
        for (int m = 0; m <= 4; m++) {
            for (int told = 0; told <= 12; told++) {
                // y(n + m) = y(n) + 1; y(n) = 1 if m is 0.
                RecurrenceAnswers x = new RecurrenceAnswers(4);
                x.factor(0, 0, -1, 1);
                x.factor(m, 0, 1, 1);
                x.right(0, 1, 1);
                long[] due = new long[301];
                for (int n = 0; n <= 300; n++) {
                    due[n] = n < told ? 50 + 10 * n : m == 0 ? 1 : n < m ? 0 : due[n - m] + 1;
                }
                for (int n = 0; n < told; n++) {
                    x.start(due[n]);
                }
                for (int n = 0; n <= 300; n++) {
                    CHECKS.equal("m " + m + ", " + told + " starts, value " + n, x.value(n),
                            told < m ? -1 : due[n]);
                }
            }
        }
    }

    private static void valuesOfTheGreatestFactor() {
        CHECKS.about("m the greatest number of a FACTOR that isn't 0");
        for (int m = 1; m <= 4; m++) {
            // y(n + m) = y(n + m - 1), first with a greater FACTOR, then without it.
            RecurrenceAnswers x = new RecurrenceAnswers(4);
            x.factor(m - 1, 0, -1, 1);
            x.factor(m, 0, 1, 1);
            for (int n = 0; n < m; n++) {
                x.start(n + 1);
            }
            CHECKS.equal("m starts", x.value(300), m);
            for (int above = m + 1; above <= 4; above++) {
                x.factor(above, 6, 1, 1);
                CHECKS.equal("too few", x.value(0), -1);
                CHECKS.equal("too few", x.value(300), -1);
                x.factor(above, 6, 0, 1);
                CHECKS.equal("enough again", x.value(300), m);
            }
        }
    }

    private static void valuesOfEachPower() {
        CHECKS.about("y(k + m) is what the EQUATION for n = k makes: degrees up to 6 and 10");
        for (int power = 0; power <= 6; power++) {
            // 5 y(n + 1) = 3 n^power y(n), and 5 n^power y(n + 1) = 3 y(n), each from y(1) on.
            RecurrenceAnswers lesser = new RecurrenceAnswers(1);
            lesser.factor(0, power, -3, 1);
            lesser.factor(1, 0, 5, 1);
            RecurrenceAnswers greatest = new RecurrenceAnswers(1);
            greatest.factor(0, 0, -3, 1);
            greatest.factor(1, power, 5, 1);
            for (int i = 0; i < 2; i++) {
                lesser.start(7);
                greatest.start(7);
            }
            for (int n = 1; n <= 200; n++) {
                CHECKS.equal("3 n^" + power + " y(n) at " + n, 5L * lesser.value(n + 1) % P,
                        3L * raised(n, power) * lesser.value(n) % P);
                CHECKS.equal("5 n^" + power + " y(n + 1) at " + n,
                        5L * raised(n, power) * greatest.value(n + 1) % P,
                        3L * greatest.value(n) % P);
            }
        }
        for (int power = 0; power <= 10; power++) {
            RecurrenceAnswers x = equation(1, row(1));
            x.right(power, 1, 1);
            for (int n = 0; n <= 300; n++) {
                CHECKS.equal("n^" + power + " at " + n, x.value(n), raised(n, power));
            }
        }
    }

    private static long raised(long n, int power) {
        long product = 1;
        for (int i = 0; i < power; i++) {
            product = product * n % P;
        }
        return product;
    }

    /** (n - zero) y(n + m) = (n - zero) (y(n) + 1), told without the part that cancels. */
    private static RecurrenceAnswers stopping(int m, long zero, int starts) {
        RecurrenceAnswers x = new RecurrenceAnswers(m);
        x.factor(m, 1, 1, 1);
        x.factor(m, 0, -zero, 1);
        x.factor(0, 1, -1, 1);
        x.factor(0, 0, zero, 1);
        x.right(1, 1, 1);
        x.right(0, -zero, 1);
        for (int n = 0; n < starts; n++) {
            x.start(n / m + 1000);
        }
        return x;
    }

    private static void valuesUpToAZero() {
        CHECKS.about("where it is, neither that value nor any behind it is known");
        int[] zeros = {0, 1, 2, 50, 295, 296, 297, 298, 299, 300, 301, P - 2, P - 1};
        for (int m = 1; m <= 4; m++) {
            for (int zero : zeros) {
                RecurrenceAnswers x = stopping(m, zero, m);
                for (int n = 0; n <= 300; n++) {
                    CHECKS.equal("m " + m + ", 0 at " + zero + ", value " + n, x.value(n),
                            n < zero + m ? n / m + 1000 : -1);
                }
                CHECKS.equal("asked from behind", stopping(m, zero, m).value(300),
                        300 < zero + m ? 300 / m + 1000 : -1);
            }
        }
        // Without STARTS, m being 0: (n - zero) y(n) = n - zero.
        for (int zero : zeros) {
            RecurrenceAnswers x = equation(1, row(-zero, 1));
            x.right(1, 1, 1);
            x.right(0, -zero, 1);
            for (int n = 0; n <= 300; n++) {
                CHECKS.equal("m 0, 0 at " + zero + ", value " + n, x.value(n), n < zero ? 1 : -1);
            }
        }
    }

    private static void valuesUpToAZeroOfOthers() {
        CHECKS.about("if that FACTOR isn't 0 at k: that one alone");
        // y(n + 2) = n (n - 1) y(n) + (n - 2) y(n + 1): zeros of the lesser FACTORS stop nothing.
        RecurrenceAnswers x = equation(2, row(0, 1, -1), row(2, -1), row(1));
        x.start(1);
        x.start(1);
        long[] due = new long[301];
        due[0] = 1;
        due[1] = 1;
        for (int n = 2; n <= 300; n++) {
            long k = n - 2;
            due[n] = modulo(k * (k - 1) % P * due[n - 2] + (k - 2) * due[n - 1]);
        }
        for (int n = 0; n <= 300; n++) {
            CHECKS.equal("value " + n, x.value(n), due[n]);
        }
    }

    private static void startsAtAZero() {
        CHECKS.about("Values that are STARTS are these, whatever the FACTOR is there");
        for (int m = 1; m <= 4; m++) {
            for (int starts = m; starts <= 12; starts++) {
                // The last START stands where the FACTOR is 0, or the first value behind it.
                int zero = starts - 1 - m;
                if (zero >= 0) {
                    RecurrenceAnswers x = stopping(m, zero, starts);
                    for (int n = 0; n <= 300; n++) {
                        CHECKS.equal("m " + m + ", the last start at the zero, value " + n,
                                x.value(n), n / m + 1000);
                    }
                }
                RecurrenceAnswers x = stopping(m, zero + 1, starts);
                for (int n = 0; n <= 300; n++) {
                    CHECKS.equal("m " + m + ", the last start ahead of the zero, value " + n,
                            x.value(n), n < starts ? n / m + 1000 : -1);
                }
            }
        }
    }

    private static void startsBehindAZero() {
        CHECKS.about("those behind go on from them");
        // n y(n + 1) = n (y(n) + 1), y(0) = 5: y(1) isn't known until it is a START.
        RecurrenceAnswers x = equation(1, row(0, -1), row(0, 1));
        x.right(1, 1, 1);
        x.start(5);
        CHECKS.equal("the start", x.value(0), 5);
        CHECKS.equal("at the zero", x.value(1), -1);
        CHECKS.equal("behind it", x.value(2), -1);
        x.start(70);
        CHECKS.equal("the start ahead", x.value(0), 5);
        CHECKS.equal("at the zero", x.value(1), 70);
        CHECKS.equal("behind it", x.value(2), 71);
        CHECKS.equal("the last", x.value(300), 369);
        x.start(900);
        CHECKS.equal("no longer of y(1)", x.value(2), 900);
        CHECKS.equal("the last", x.value(300), 1198);
    }

    private static void secondZero() {
        CHECKS.about("where it is, .. if that value is no START: each zero by itself");
        // n (n - 3) y(n + 1) = n (n - 3) (y(n) + 1): y(1) and y(4) are not told by it.
        RecurrenceAnswers x = equation(1, row(0, 3, -1), row(0, -3, 1));
        x.right(1, -3, 1);
        x.right(2, 1, 1);
        x.start(10);
        CHECKS.equal("y(1)", x.value(1), -1);
        x.start(20);
        CHECKS.equal("y(2)", x.value(2), 21);
        CHECKS.equal("y(3)", x.value(3), 22);
        CHECKS.equal("y(4)", x.value(4), -1);
        CHECKS.equal("y(300)", x.value(300), -1);
        x.start(30);
        x.start(40);
        CHECKS.equal("y(3)", x.value(3), 40);
        CHECKS.equal("y(4)", x.value(4), -1);
        x.start(50);
        CHECKS.equal("y(4)", x.value(4), 50);
        CHECKS.equal("y(300)", x.value(300), 346);
    }
}
