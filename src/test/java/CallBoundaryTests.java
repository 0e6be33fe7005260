/**
 * The boundary cases of the promises, a method for each sentence: the least and the greatest that
 * is taken, the first ones beside them, and what a refused call leaves as it was.
 */
public final class CallBoundaryTests extends Equations {

    private static final Checks CHECKS = new Checks();
    private static final Class<ArrayIndexOutOfBoundsException> NO_FACTOR =
            ArrayIndexOutOfBoundsException.class;
    private static final Class<IllegalArgumentException> ARGUMENT = IllegalArgumentException.class;
    private static final Class<ArithmeticException> ARITHMETIC = ArithmeticException.class;
    private static final Class<IllegalStateException> STATE = IllegalStateException.class;
    private static final int LEAST = Integer.MIN_VALUE;
    private static final int GREATEST = Integer.MAX_VALUE;
    /** Numbers that are 0 modulo 32003, the ones nearest to the ends of a long among them. */
    private static final long[] ZEROS = {0, P, -P, 2L * P, -2L * P, (long) P * P,
        Long.MAX_VALUE - Long.MAX_VALUE % P, Long.MIN_VALUE - Long.MIN_VALUE % P};

    /** A call on an object of an order. */
    private interface On {
        long ask(RecurrenceAnswers x, int order);
    }

    public static void main(String[] args) {
        orders();
        factorShifts();
        factorPowers();
        factorBelow();
        factorFirstOfSeveral();
        factorAnother();
        rightPowers();
        rightBelow();
        rightFirstOfSeveral();
        rightAnother();
        runFinds();
        runWithoutFactors();
        unknownOnNewOnes();
        unknownSinceChange();
        stateBeforeArgument();
        polynomialsCount();
        answerOfTheRow();
        answerOfTheParticular();
        answerPowers();
        meetsOrNot();
        powersCount();
        basesAndMany();
        timesWhich();
        timesPowers();
        startsUpToTwelve();
        valuePlaces();
        valueUnknown();
        singularWhich();
        singularAgainstAllNumbers();
        singularWithout();
        ends();
        endWhich();
        restPowers();
        restWithoutPut();
        putPowers();
        putAnother();
        clearing();
        clearingKeepsOrder();
        queriesChangeNothing();
        CHECKS.finish();
    }

    /** The call throws on each sample, also when asked twice, and leaves all as it was. */
    private static void refused(String what, Sample[] samples,
            Class<? extends RuntimeException> want, On call) {
        for (Sample sample : samples) {
            RecurrenceAnswers x = sample.make();
            String where = what + " (" + sample.name + ")";
            CHECKS.thrown(where, want, () -> call.ask(x, sample.order));
            CHECKS.thrown(where + " again", want, () -> call.ask(x, sample.order));
            sample.stands(CHECKS, what, x);
        }
    }

    /** The call answers so on each sample, and leaves all as it was. */
    private static void answersWithoutChange(String what, Sample[] samples, long want, On call) {
        for (Sample sample : samples) {
            RecurrenceAnswers x = sample.make();
            CHECKS.equal(what + " (" + sample.name + ")", call.ask(x, sample.order), want);
            sample.stands(CHECKS, what, x);
        }
    }

    // Promise 1

    private static void orders() {
        CHECKS.about("An ORDER: 1 if that is below 1, 4 if it is above 4");
        int[] asked = {LEAST, LEAST + 1, -2, -1, 0, 1, 2, 3, 4, 5, 6, GREATEST - 1, GREATEST};
        int[] due = {1, 1, 1, 1, 1, 1, 2, 3, 4, 4, 4, 4, 4};
        for (int i = 0; i < asked.length; i++) {
            RecurrenceAnswers x = new RecurrenceAnswers(asked[i]);
            int order = due[i];
            for (int shift = 0; shift <= order; shift++) {
                CHECKS.yes("order " + asked[i] + " has " + shift, x.factor(shift, 0, 1, 1));
                CHECKS.equal("order " + asked[i] + " counts " + shift, x.end(1), shift);
            }
            CHECKS.thrown("order " + asked[i] + " has no " + (order + 1), NO_FACTOR,
                    () -> bit(x.factor(order + 1, 0, 1, 1)));
        }
    }

    // Promise 2

    private static void factorShifts() {
        CHECKS.about("ArrayIndexOutOfBoundsException: no such FACTOR");
        refused("factor -1", Sample.ALL, NO_FACTOR, (x, r) -> bit(x.factor(-1, 0, 1, 1)));
        refused("factor r + 1", Sample.ALL, NO_FACTOR, (x, r) -> bit(x.factor(r + 1, 0, 1, 1)));
        refused("factor least", Sample.ALL, NO_FACTOR, (x, r) -> bit(x.factor(LEAST, 6, 1, 1)));
        refused("factor greatest", Sample.ALL, NO_FACTOR,
                (x, r) -> bit(x.factor(GREATEST, 6, 1, 1)));
        // A number that would be no other one is refused as well.
        refused("factor r + 1, 0", Sample.ALL, NO_FACTOR,
                (x, r) -> bit(x.factor(r + 1, 6, 0, 1)));
        for (int order = 1; order <= 4; order++) {
            RecurrenceAnswers x = new RecurrenceAnswers(order);
            CHECKS.yes("the least", x.factor(0, 0, 1, 1));
            CHECKS.yes("the greatest", x.factor(order, 0, 1, 1));
            for (int above = order + 1; above <= 6; above++) {
                int shift = above;
                CHECKS.thrown("order " + order + ", factor " + shift, NO_FACTOR,
                        () -> bit(x.factor(shift, 0, 1, 1)));
            }
        }
    }

    private static void factorPowers() {
        CHECKS.about("factor: powers are 0 .. 6");
        for (int power : new int[] {-1, 7, LEAST, GREATEST}) {
            refused("power " + power, Sample.ALL, ARGUMENT,
                    (x, r) -> bit(x.factor(0, power, 1, 1)));
            refused("power " + power + " of the last", Sample.ALL, ARGUMENT,
                    (x, r) -> bit(x.factor(r, power, 0, 1)));
        }
        RecurrenceAnswers x = new RecurrenceAnswers(1);
        CHECKS.yes("the least", x.factor(1, 0, 3, 1));
        CHECKS.yes("the greatest", x.factor(1, 6, 4, 1));
        x.put(0, 1);
        CHECKS.equal("at the least", x.rest(0), 3);
        CHECKS.equal("at the greatest", x.rest(6), 4);
    }

    private static void factorBelow() {
        CHECKS.about("factor: ArithmeticException: below is 0 modulo 32003");
        for (long below : ZEROS) {
            refused("below " + below, Sample.ALL, ARITHMETIC,
                    (x, r) -> bit(x.factor(r, 6, 17, below)));
            refused("0 through " + below, Sample.ALL, ARITHMETIC,
                    (x, r) -> bit(x.factor(0, 0, 0, below)));
            RecurrenceAnswers x = new RecurrenceAnswers(1);
            CHECKS.yes("the next above", x.factor(0, 0, 17, below + 1));
            CHECKS.no("is 1", x.factor(0, 0, 17, 1));
            CHECKS.yes("the next below", x.factor(0, 0, 17, below - 1));
            CHECKS.no("is -1", x.factor(0, 0, -17, 1));
        }
        RecurrenceAnswers x = new RecurrenceAnswers(1);
        CHECKS.yes("the least long", x.factor(0, 0, 1, Long.MIN_VALUE));
        CHECKS.yes("the greatest long", x.factor(0, 0, 1, Long.MAX_VALUE));
    }

    private static void factorFirstOfSeveral() {
        CHECKS.about("factor: Of several the one that stands first behind \"throws\" is thrown");
        for (int shift : new int[] {-1, 5, LEAST, GREATEST}) {
            refused("all three", Sample.ALL, NO_FACTOR, (x, r) -> bit(x.factor(shift, 7, 1, 0)));
            refused("shift, power", Sample.ALL, NO_FACTOR,
                    (x, r) -> bit(x.factor(shift, -1, 1, 1)));
            refused("shift, below", Sample.ALL, NO_FACTOR,
                    (x, r) -> bit(x.factor(shift, 6, 1, P)));
        }
        refused("r + 1, power, below", Sample.ALL, NO_FACTOR,
                (x, r) -> bit(x.factor(r + 1, 7, 0, -P)));
        refused("power 7, below", Sample.ALL, ARGUMENT, (x, r) -> bit(x.factor(r, 7, 1, 0)));
        refused("power -1, below", Sample.ALL, ARGUMENT, (x, r) -> bit(x.factor(0, -1, 0, P)));
    }

    private static void factorAnother() {
        CHECKS.about("factor: whether it is another one (then the ANSWERS aren't known)");
        for (Sample sample : Sample.KNOWN) {
            RecurrenceAnswers x = sample.make();
            sample.tellEquation(x);
            sample.stands(CHECKS, "all numbers told again", x);
        }
        for (int shift = 0; shift <= 2; shift++) {
            for (int power = 0; power <= 6; power++) {
                RecurrenceAnswers x = steps(2, 1);
                x.run();
                long now = power == 0 ? shift == 1 ? -2 : 1 : 0;
                CHECKS.no("the same", x.factor(shift, power, now, 1));
                CHECKS.no("the same modulo", x.factor(shift, power, now - P, 1));
                CHECKS.no("the same as a fraction", x.factor(shift, power, 3 * now, 3));
                CHECKS.equal("still known", x.polynomials(), 2);
                CHECKS.yes("the next above", x.factor(shift, power, now + 1, 1));
                allUnknown("another at " + shift + ", " + power, x);
                CHECKS.yes("back", x.factor(shift, power, now, 1));
                allUnknown("back at " + shift + ", " + power, x);
                CHECKS.equal("found", x.run(), 0);
                CHECKS.equal("as before", x.polynomials(), 2);
            }
        }
    }

    /** Each call that needs the answers throws, whatever else is wrong with it. */
    private static void allUnknown(String what, RecurrenceAnswers x) {
        CHECKS.thrown(what + ": polynomials", STATE, x::polynomials);
        CHECKS.thrown(what + ": answer", STATE, () -> x.answer(0, 0));
        CHECKS.thrown(what + ": answer", STATE, () -> x.answer(-1, 13));
        CHECKS.thrown(what + ": meets", STATE, () -> bit(x.meets()));
        CHECKS.thrown(what + ": powers", STATE, x::powers);
        CHECKS.thrown(what + ": base", STATE, () -> x.base(0));
        CHECKS.thrown(what + ": many", STATE, () -> x.many(0));
        CHECKS.thrown(what + ": times", STATE, () -> x.times(0, 0, 0));
        CHECKS.thrown(what + ": times", STATE, () -> x.times(0, 0, -1));
    }

    // Promise 3

    private static void rightPowers() {
        CHECKS.about("right: powers are 0 .. 10");
        for (int power : new int[] {-1, 11, 12, LEAST, GREATEST}) {
            refused("power " + power, Sample.ALL, ARGUMENT, (x, r) -> bit(x.right(power, 1, 1)));
            refused("power " + power + " of 0", Sample.ALL, ARGUMENT,
                    (x, r) -> bit(x.right(power, 0, 1)));
        }
        RecurrenceAnswers x = new RecurrenceAnswers(1);
        CHECKS.yes("the least", x.right(0, 3, 1));
        CHECKS.yes("the greatest", x.right(10, 4, 1));
        CHECKS.equal("at the least", x.rest(0), P - 3);
        CHECKS.equal("at the greatest", x.rest(10), P - 4);
        CHECKS.equal("above it", x.rest(11), 0);
    }

    private static void rightBelow() {
        CHECKS.about("right: likewise: ArithmeticException: below is 0 modulo 32003");
        for (long below : ZEROS) {
            refused("below " + below, Sample.ALL, ARITHMETIC,
                    (x, r) -> bit(x.right(10, 17, below)));
            refused("0 through " + below, Sample.ALL, ARITHMETIC,
                    (x, r) -> bit(x.right(0, 0, below)));
            RecurrenceAnswers x = new RecurrenceAnswers(1);
            CHECKS.yes("the next above", x.right(0, 17, below + 1));
            CHECKS.no("is 1", x.right(0, 17, 1));
            CHECKS.yes("the next below", x.right(0, 17, below - 1));
            CHECKS.no("is -1", x.right(0, -17, 1));
        }
    }

    private static void rightFirstOfSeveral() {
        CHECKS.about("right: Of several the one that stands first behind \"throws\" is thrown");
        refused("power 11, below", Sample.ALL, ARGUMENT, (x, r) -> bit(x.right(11, 1, 0)));
        refused("power -1, below", Sample.ALL, ARGUMENT, (x, r) -> bit(x.right(-1, 0, -P)));
    }

    private static void rightAnother() {
        CHECKS.about("right: likewise: whether it is another one (then the ANSWERS aren't known)");
        for (int power = 0; power <= 10; power++) {
            RecurrenceAnswers x = ran(steps(1, 1));
            CHECKS.no("the same", x.right(power, 0, 1));
            CHECKS.no("the same modulo", x.right(power, P, 5));
            CHECKS.yes("still known", x.meets());
            CHECKS.yes("the next above", x.right(power, 1, 1));
            allUnknown("another at " + power, x);
            CHECKS.no("the same", x.right(power, 1 - P, 1));
            allUnknown("the same at " + power, x);
            CHECKS.yes("back", x.right(power, 0, 1));
            allUnknown("back at " + power, x);
            CHECKS.equal("found", x.run(), 0);
            CHECKS.yes("as before", x.meets());
        }
    }

    // Promise 4

    private static void runFinds() {
        CHECKS.about("The ANSWERS are found: 0");
        answersWithoutChange("run() of known ones", Sample.KNOWN, 0, (x, r) -> x.run());
        for (Sample sample : Sample.UNKNOWN) {
            RecurrenceAnswers x = sample.make();
            CHECKS.equal("run() (" + sample.name + ")", x.run(), x.end(0) < 0 ? 1 : 0);
            x.factor(0, 0, 1, 1);
            CHECKS.equal("run() with a factor (" + sample.name + ")", x.run(), 0);
            CHECKS.yes("known (" + sample.name + ")", x.polynomials() >= 0);
        }
    }

    private static void runWithoutFactors() {
        CHECKS.about("1 (they aren't) if all FACTORS are 0");
        for (int order = 1; order <= 4; order++) {
            RecurrenceAnswers x = new RecurrenceAnswers(order);
            CHECKS.equal("a new one", x.run(), 1);
            allUnknown("a new one", x);
            for (int power = 0; power <= 10; power++) {
                x.right(power, 1, 1);
            }
            x.put(0, 1);
            x.start(1);
            CHECKS.equal("no factors", x.run(), 1);
            allUnknown("no factors", x);
            for (int shift = 0; shift <= order; shift++) {
                x.factor(shift, 6, 0, 1);
                x.factor(shift, 0, P, 1);
            }
            CHECKS.equal("factors told as 0", x.run(), 1);
            x.factor(order, 6, 1, 1);
            CHECKS.equal("the last one", x.run(), 0);
            CHECKS.equal("known", x.powers(), 0);
            x.factor(order, 6, 0, 1);
            CHECKS.equal("none any more", x.run(), 1);
            allUnknown("none any more", x);
            x.factor(0, 0, 1, 1);
            allUnknown("answered 1, then told", x);
            CHECKS.equal("the first one", x.run(), 0);
        }
        Sample withoutFactors = Sample.UNKNOWN[2];
        RecurrenceAnswers x = withoutFactors.make();
        CHECKS.equal("1", x.run(), 1);
        CHECKS.equal("1 again", x.run(), 1);
        withoutFactors.stands(CHECKS, "run() that answers 1", x);
    }

    // IllegalStateException

    private static void unknownOnNewOnes() {
        CHECKS.about("IllegalStateException: the ANSWERS aren't known");
        refused("polynomials", Sample.UNKNOWN, STATE, (x, r) -> x.polynomials());
        refused("answer", Sample.UNKNOWN, STATE, (x, r) -> x.answer(0, 0));
        refused("answer -1", Sample.UNKNOWN, STATE, (x, r) -> x.answer(-1, 12));
        refused("meets", Sample.UNKNOWN, STATE, (x, r) -> bit(x.meets()));
        refused("powers", Sample.UNKNOWN, STATE, (x, r) -> x.powers());
        refused("base", Sample.UNKNOWN, STATE, (x, r) -> x.base(0));
        refused("base -1", Sample.UNKNOWN, STATE, (x, r) -> x.base(-1));
        refused("many", Sample.UNKNOWN, STATE, (x, r) -> x.many(0));
        refused("many 4", Sample.UNKNOWN, STATE, (x, r) -> x.many(4));
        refused("times", Sample.UNKNOWN, STATE, (x, r) -> x.times(0, 0, 12));
    }

    private static void unknownSinceChange() {
        CHECKS.about("run() wasn't asked since something changed, or answered 1");
        RecurrenceAnswers x = ran(steps(1, 5));
        CHECKS.equal("known", x.base(0), 5);
        x.factor(0, 0, -6, 1);
        allUnknown("a factor changed", x);
        x.run();
        CHECKS.equal("known", x.base(0), 6);
        x.right(10, 1, 1);
        allUnknown("the right side changed", x);
        x.run();
        CHECKS.equal("known", x.base(0), 6);
        x.factor(1, 0, 0, 1);
        x.factor(0, 0, 0, 1);
        CHECKS.equal("answered 1", x.run(), 1);
        allUnknown("answered 1", x);
        x.factor(1, 0, 1, 1);
        x.factor(0, 0, -7, 1);
        allUnknown("a factor again", x);
        x.run();
        CHECKS.equal("known", x.base(0), 7);
        x.clear();
        allUnknown("cleared", x);
        // The answers are made of the factors and the right side alone.
        RecurrenceAnswers kept = ran(steps(1, 5));
        CHECKS.yes("a start more", kept.start(1));
        CHECKS.equal("still known", kept.base(0), 5);
        CHECKS.yes("another number put", kept.put(0, 1));
        CHECKS.equal("still known", kept.base(0), 5);
    }

    private static void stateBeforeArgument() {
        CHECKS.about("IllegalStateException, IllegalArgumentException: the first of them");
        for (int power : new int[] {-1, 13, LEAST, GREATEST}) {
            refused("answer at " + power, Sample.UNKNOWN, STATE, (x, r) -> x.answer(0, power));
            refused("times at " + power, Sample.UNKNOWN, STATE, (x, r) -> x.times(0, 0, power));
        }
        for (int k : new int[] {-2, 4, LEAST, GREATEST}) {
            refused("answer " + k, Sample.UNKNOWN, STATE, (x, r) -> x.answer(k, 0));
            refused("times " + k, Sample.UNKNOWN, STATE, (x, r) -> x.times(k, 0, 0));
            refused("times 0, " + k, Sample.UNKNOWN, STATE, (x, r) -> x.times(0, k, 0));
            refused("times, all wrong", Sample.UNKNOWN, STATE, (x, r) -> x.times(k, k, 13));
        }
    }

    // Promise 5

    private static void polynomialsCount() {
        CHECKS.about("How many there are in the ROW (1)");
        CHECKS.equal("none", ran(equation(4, row(1))).polynomials(), 0);
        for (int times = 1; times <= 4; times++) {
            CHECKS.equal("of an order " + times, ran(steps(times, 1)).polynomials(), times);
        }
        // One each of 1, -1, 2, -2: the powers of the others don't count.
        CHECKS.equal("of four powers", ran(stepsWith(1, -1, 2, -2)).polynomials(), 1);
    }

    // Promise 6

    private static void answerOfTheRow() {
        CHECKS.about("The number at a power of the k-th one in the ROW (1): there is none such");
        for (int size = 0; size <= 4; size++) {
            RecurrenceAnswers x = ran(size == 0 ? equation(1, row(1)) : steps(size, 1));
            if (size > 0) {
                CHECKS.equal("the least", x.answer(0, 0), 1);
                CHECKS.equal("the greatest", x.answer(size - 1, size - 1), 1);
            }
            int[] wrong = {-2, -3, size, size + 1, 4, 5, LEAST, GREATEST};
            for (int k : wrong) {
                CHECKS.thrown("k " + k + " of " + size, ARGUMENT, () -> x.answer(k, 0));
                CHECKS.thrown("k " + k + " of " + size, ARGUMENT, () -> x.answer(k, 12));
            }
            CHECKS.equal("still known", x.polynomials(), size);
        }
        for (int k : new int[] {-2, 4, LEAST, GREATEST}) {
            refused("k " + k, Sample.KNOWN, ARGUMENT, (x, r) -> x.answer(k, 0));
        }
    }

    private static void answerOfTheParticular() {
        CHECKS.about("of the PARTICULAR one for k -1: there is none such");
        RecurrenceAnswers x = equation(1, row(0, 1));
        x.right(1, 6, 1);
        x.run();
        answerIs(CHECKS, "n y(n) = 6 n", x, -1, 6);
        CHECKS.thrown("no row beside it", ARGUMENT, () -> x.answer(0, 0));
        x.right(0, 1, 1);
        x.run();
        for (int power = -1; power <= 13; power++) {
            int at = power;
            CHECKS.thrown("n y(n) = 6 n + 1", ARGUMENT, () -> x.answer(-1, at));
        }
        // n y(n + 1) - (n + 1) y(n) is 0 for n, - 1 for 1 and n^2 + n for n^2: never n + 1.
        RecurrenceAnswers beside = risingEquation(1, 0, 1);
        beside.right(0, 1, 1);
        beside.run();
        answerIs(CHECKS, "- 1", beside, -1, -1);
        answerIs(CHECKS, "n", beside, 0, 0, 1);
        beside.right(1, 1, 1);
        beside.run();
        CHECKS.thrown("n + 1", ARGUMENT, () -> beside.answer(-1, 0));
        answerIs(CHECKS, "n", beside, 0, 0, 1);
    }

    private static void answerPowers() {
        CHECKS.about("answer: powers aren't 0 .. 12");
        long[] due = rising(1, 12);
        RecurrenceAnswers x = ran(risingEquation(1, 1, 12));
        CHECKS.equal("the least", x.answer(0, 0), due[0]);
        CHECKS.equal("the greatest", x.answer(0, 12), 1);
        // Two differences are 132 n^10: n^12 and less.
        RecurrenceAnswers particular = steps(2, 1);
        particular.right(10, 132, 1);
        particular.run();
        CHECKS.equal("the greatest", particular.answer(-1, 12), 1);
        RecurrenceAnswers number = equation(1, row(1));
        number.right(0, 9, 1);
        number.run();
        CHECKS.equal("the least", number.answer(-1, 0), 9);
        CHECKS.equal("the greatest", number.answer(-1, 12), 0);
        for (int power : new int[] {-1, 13, 14, LEAST, GREATEST}) {
            CHECKS.thrown("power " + power, ARGUMENT, () -> x.answer(0, power));
            CHECKS.thrown("power " + power, ARGUMENT, () -> particular.answer(-1, power));
            CHECKS.thrown("power " + power, ARGUMENT, () -> number.answer(-1, power));
            // Ones that have others beside them in the row.
            RecurrenceAnswers four = ran(steps(4, 1));
            CHECKS.thrown("power " + power + " of 1", ARGUMENT, () -> four.answer(1, power));
            CHECKS.thrown("power " + power + " of 3", ARGUMENT, () -> four.answer(3, power));
            refused("power " + power, Sample.KNOWN, ARGUMENT, (y, r) -> y.answer(0, power));
            refused("power " + power, Sample.KNOWN, ARGUMENT, (y, r) -> y.answer(-1, power));
        }
    }

    // Promise 7

    private static void meetsOrNot() {
        CHECKS.about("Whether there is a PARTICULAR one");
        RecurrenceAnswers x = equation(1, row(0, 0, 1));
        CHECKS.yes("n^2 y(n) = 0", ran(x).meets());
        x.right(1, 1, 1);
        CHECKS.no("n^2 y(n) = n", ran(x).meets());
        x.right(1, 0, 1);
        x.right(2, 1, 1);
        CHECKS.yes("n^2 y(n) = n^2", ran(x).meets());
        x.right(0, P - 1, 1);
        CHECKS.no("n^2 y(n) = n^2 - 1", ran(x).meets());
        for (int times = 1; times <= 4; times++) {
            RecurrenceAnswers last = steps(times, 1);
            int greatest = Math.min(10, 12 - times);
            last.right(greatest, 1, 1);
            CHECKS.yes(times + " differences, n^" + greatest, ran(last).meets());
            if (greatest < 10) {
                last.right(greatest + 1, 1, 1);
                CHECKS.no(times + " differences, one more", ran(last).meets());
            }
        }
    }

    // Promises 8, 9, 10

    private static void powersCount() {
        CHECKS.about("How many POWERS there are");
        CHECKS.equal("none", ran(equation(4, row(1))).powers(), 0);
        CHECKS.equal("one", ran(stepsWith(P - 1)).powers(), 1);
        CHECKS.equal("two", ran(stepsWith(P - 1, 1)).powers(), 2);
        CHECKS.equal("three", ran(stepsWith(P - 1, 1, 2)).powers(), 3);
        CHECKS.equal("four", ran(stepsWith(P - 1, 1, 2, P - 2)).powers(), 4);
        CHECKS.equal("one four times", ran(stepsWith(3, 3, 3, 3)).powers(), 1);
        CHECKS.equal("fewer than before", fewerThanBefore().powers(), 1);
    }

    /** Four powers first, then one. */
    private static RecurrenceAnswers fewerThanBefore() {
        RecurrenceAnswers x = ran(stepsWith(P - 1, 1, 2, P - 2));
        for (int shift = 2; shift <= 4; shift++) {
            x.factor(shift, 0, 0, 1);
        }
        x.factor(1, 0, 1, 1);
        x.factor(0, 0, -9, 1);
        return ran(x);
    }

    private static void basesAndMany() {
        CHECKS.about("The k-th z; -1 if there is none such; How many there are in its ROW; "
                + "-1 likewise");
        long[][] told = {{0}, {1}, {1, P - 1}, {1, 2, P - 1}, {1, 2, P - 2, P - 1}};
        for (int count = 0; count <= 4; count++) {
            RecurrenceAnswers x = ran(stepsWith(told[count]));
            if (count > 0) {
                CHECKS.equal("the least", x.base(0), 1);
                CHECKS.equal("the greatest", x.base(count - 1), told[count][count - 1]);
                CHECKS.equal("the least", x.many(0), 1);
                CHECKS.equal("the greatest", x.many(count - 1), 1);
            }
            for (int k : new int[] {-1, -2, count, count + 1, 4, 5, LEAST, GREATEST}) {
                CHECKS.equal("base " + k + " of " + count, x.base(k), -1);
                CHECKS.equal("many " + k + " of " + count, x.many(k), -1);
            }
            CHECKS.equal("still known", x.powers(), count);
        }
        RecurrenceAnswers fewer = fewerThanBefore();
        CHECKS.equal("the one", fewer.base(0), 9);
        CHECKS.equal("none left of four", fewer.base(1), -1);
        CHECKS.equal("none left of four", fewer.many(1), -1);
        CHECKS.equal("the greatest row", ran(steps(4, 2)).many(0), 4);
        for (int k : new int[] {-1, 4, LEAST, GREATEST}) {
            answersWithoutChange("base " + k, Sample.KNOWN, -1, (x, r) -> x.base(k));
            answersWithoutChange("many " + k, Sample.KNOWN, -1, (x, r) -> x.many(k));
        }
    }

    // Promise 11

    private static void timesWhich() {
        CHECKS.about("The number at a power of the i-th one in it: there is none such");
        long[][] told = {{0}, {1}, {1, P - 1}, {1, 2, P - 1}, {1, 2, P - 2, P - 1}};
        for (int count = 0; count <= 4; count++) {
            RecurrenceAnswers x = ran(stepsWith(told[count]));
            if (count > 0) {
                CHECKS.equal("the least", x.times(0, 0, 0), 1);
                CHECKS.equal("the greatest", x.times(count - 1, 0, 0), 1);
            }
            for (int k : new int[] {-1, -2, count, count + 1, 4, 5, LEAST, GREATEST}) {
                CHECKS.thrown("k " + k + " of " + count, ARGUMENT, () -> x.times(k, 0, 0));
            }
        }
        for (int size = 1; size <= 4; size++) {
            RecurrenceAnswers x = ran(steps(size, 2));
            CHECKS.equal("the least", x.times(0, 0, 0), 1);
            CHECKS.equal("the greatest", x.times(0, size - 1, size - 1), 1);
            for (int i : new int[] {-1, -2, size, size + 1, 4, 5, LEAST, GREATEST}) {
                CHECKS.thrown("i " + i + " of " + size, ARGUMENT, () -> x.times(0, i, 0));
            }
            int behind = size;
            CHECKS.thrown("both", ARGUMENT, () -> x.times(1, behind, 0));
        }
        RecurrenceAnswers fewer = fewerThanBefore();
        CHECKS.equal("the one", fewer.times(0, 0, 0), 1);
        CHECKS.thrown("none left of four", ARGUMENT, () -> fewer.times(1, 0, 0));
        for (int k : new int[] {-1, 4, LEAST, GREATEST}) {
            refused("k " + k, Sample.KNOWN, ARGUMENT, (x, r) -> x.times(k, 0, 0));
            refused("i " + k, Sample.KNOWN, ARGUMENT, (x, r) -> x.times(0, k, 0));
        }
    }

    private static void timesPowers() {
        CHECKS.about("times: powers aren't 0 .. 12");
        long[] due = rising(1, 12);
        RecurrenceAnswers x = ran(risingEquation(3, 1, 12));
        CHECKS.equal("the least", x.times(0, 0, 0), due[0]);
        CHECKS.equal("the greatest", x.times(0, 0, 12), 1);
        RecurrenceAnswers four = ran(steps(4, 3));
        for (int power : new int[] {-1, 13, 14, LEAST, GREATEST}) {
            CHECKS.thrown("power " + power, ARGUMENT, () -> x.times(0, 0, power));
            CHECKS.thrown("power " + power + " of 1", ARGUMENT, () -> four.times(0, 1, power));
            CHECKS.thrown("power " + power + " of 3", ARGUMENT, () -> four.times(0, 3, power));
            refused("power " + power, Sample.KNOWN, ARGUMENT, (y, r) -> y.times(0, 0, power));
        }
    }

    // Promise 12

    private static void startsUpToTwelve() {
        CHECKS.about("One START more: false if there are 12");
        RecurrenceAnswers x = equation(1, row(-1), row(1));
        for (int i = 0; i < 12; i++) {
            CHECKS.yes("start " + i, x.start(100 - i));
            CHECKS.equal("it is there", x.value(i), 100 - i);
            CHECKS.equal("the next goes on from it", x.value(i + 1), 100 - i);
        }
        for (long v : new long[] {5, 0, 89, Long.MIN_VALUE, Long.MAX_VALUE}) {
            CHECKS.no("a thirteenth", x.start(v));
            for (int n = 0; n <= 13; n++) {
                CHECKS.equal("all as before", x.value(n), n < 12 ? 100 - n : 89);
            }
        }
        Sample[] full = {Sample.KNOWN[2], Sample.KNOWN[3]};
        answersWithoutChange("a thirteenth", full, 0, (y, r) -> bit(y.start(3)));
        // Without factors there is room for as many.
        RecurrenceAnswers none = new RecurrenceAnswers(1);
        for (int i = 0; i < 12; i++) {
            CHECKS.yes("start " + i, none.start(i));
        }
        CHECKS.no("a thirteenth", none.start(12));
        none.clear();
        for (int i = 0; i < 12; i++) {
            CHECKS.yes("start " + i + " after clear()", none.start(i));
        }
        CHECKS.no("a thirteenth after clear()", none.start(12));
    }

    // Promise 13

    private static void valuePlaces() {
        CHECKS.about("n isn't 0 .. 300");
        RecurrenceAnswers x = equation(1, row(-1), row(1));
        x.right(0, 1, 1);
        x.start(40);
        CHECKS.equal("the greatest", x.value(300), 340);
        CHECKS.equal("the least", x.value(0), 40);
        CHECKS.equal("the next below the greatest", x.value(299), 339);
        for (int n : new int[] {-1, 301, 302, LEAST, GREATEST}) {
            CHECKS.thrown("n " + n, ARGUMENT, () -> x.value(n));
            refused("n " + n, Sample.ALL, ARGUMENT, (y, r) -> y.value(n));
        }
    }

    private static void valueUnknown() {
        CHECKS.about("-1 if it isn't known, or there are too few STARTS, or all FACTORS are 0");
        RecurrenceAnswers none = new RecurrenceAnswers(4);
        none.right(0, 1, 1);
        for (int starts = 0; starts <= 12; starts++) {
            CHECKS.equal("all factors are 0", none.value(0), -1);
            CHECKS.equal("all factors are 0", none.value(300), -1);
            none.start(7);
        }
        none.factor(4, 0, 1, 1);
        CHECKS.equal("a factor", none.value(0), 7);
        none.factor(4, 0, 0, 1);
        CHECKS.equal("none any more", none.value(0), -1);
        RecurrenceAnswers few = equation(4, row(1), row(), row(), row(), row(1));
        for (int starts = 0; starts <= 3; starts++) {
            CHECKS.equal("too few, " + starts, few.value(0), -1);
            CHECKS.equal("too few, " + starts, few.value(4), -1);
            few.start(starts + 1);
        }
        CHECKS.equal("enough", few.value(0), 1);
        CHECKS.equal("enough", few.value(3), 4);
        CHECKS.equal("enough", few.value(4), P - 1);
        // (n - 5) y(n + 1) = y(n).
        RecurrenceAnswers stops = equation(1, row(-1), row(-5, 1));
        stops.start(1);
        CHECKS.no("the last that is known", stops.value(5) == -1);
        CHECKS.equal("the first that isn't", stops.value(6), -1);
        CHECKS.equal("the last", stops.value(300), -1);
    }

    // Promise 14

    private static void singularWhich() {
        CHECKS.about("The k-th number n, 0 .. 32002, in order, at which the FACTOR is 0; -1 if "
                + "there is none such");
        long[][] told = {{}, {0}, {P - 1, 0}, {P - 1, 1, 0}, {P - 1, P - 2, 1, 0},
            {P - 1, 16001, 16002, 1, 0}, {P - 1, 0, P - 2, 1, 16002, 16001}, {3, 3, 3, 3, 3, 3},
            {P - 1, P - 1, 0, 0, 5, 5}, {300, 299, 301, 298, 297, 296}};
        for (long[] zeros : told) {
            for (int order = 1; order <= 4; order++) {
                long[] due = java.util.Arrays.stream(zeros).sorted().distinct().toArray();
                long[][] factors = new long[order + 1][0];
                factors[0] = row(-7, 1);
                factors[order] = withZeros(zeros);
                RecurrenceAnswers x = equation(order, factors);
                for (int k = 0; k < due.length; k++) {
                    CHECKS.equal(k + " of " + due.length, x.singular(k), due[k]);
                }
                int[] wrong = {-1, -2, due.length, due.length + 1, 6, 7, LEAST, GREATEST};
                for (int k : wrong) {
                    CHECKS.equal(k + " of " + due.length, x.singular(k), -1);
                }
            }
        }
        // (n^2 + 1) (n - 8): n^2 + 1 is nowhere 0.
        RecurrenceAnswers eight = equation(1, row(1), row(-8, 1, -8, 1));
        CHECKS.equal("8", eight.singular(0), 8);
        CHECKS.equal("8 alone", eight.singular(1), -1);
        for (int k : new int[] {-1, 6, LEAST, GREATEST}) {
            answersWithoutChange("k " + k, Sample.ALL, -1, (x, r) -> x.singular(k));
        }
    }

    /** Polynomials without a zero, with few and with 6, each against all numbers tried. */
    private static void singularAgainstAllNumbers() {
        CHECKS.about("at which the FACTOR with the greatest number that isn't 0 is 0: these alone");
        for (int degree = 0; degree <= 6; degree++) {
            for (int last = 1; last <= 12; last++) {
                long[] factor = new long[degree + 1];
                factor[0] = last;
                factor[degree / 2] += 2 * last + 1;
                factor[degree] += P - last;
                if (degree == 0 && modulo(factor[0]) == 0) {
                    continue;
                }
                RecurrenceAnswers x = equation(1, row(0, 1), factor);
                int count = 0;
                for (int n = 0; n < P; n++) {
                    if (valueAt(factor, n) == 0) {
                        CHECKS.equal("the " + count + "-th zero", x.singular(count), n);
                        count++;
                    }
                }
                CHECKS.equal("behind " + count + " zeros", x.singular(count), -1);
            }
        }
    }

    private static int valueAt(long[] polynomial, long n) {
        long sum = 0;
        for (int power = polynomial.length - 1; power >= 0; power--) {
            sum = modulo(sum * n + polynomial[power]);
        }
        return (int) sum;
    }

    private static void singularWithout() {
        CHECKS.about("the FACTOR with the greatest number that isn't 0");
        RecurrenceAnswers x = new RecurrenceAnswers(4);
        CHECKS.equal("no factor", x.singular(0), -1);
        for (int shift = 0; shift <= 4; shift++) {
            x.factor(shift, 1, 1, 1);
            x.factor(shift, 0, -shift - 50, 1);
            CHECKS.equal("the greatest one", x.singular(0), shift + 50);
            CHECKS.equal("it alone", x.singular(1), -1);
        }
        x.factor(4, 1, 0, 1);
        CHECKS.equal("a number is nowhere 0", x.singular(0), -1);
        for (int shift = 4; shift >= 1; shift--) {
            x.factor(shift, 1, 0, 1);
            x.factor(shift, 0, 0, 1);
            CHECKS.equal("the next below", x.singular(0), shift + 49);
        }
        x.factor(0, 1, 0, 1);
        x.factor(0, 0, 0, 1);
        CHECKS.equal("no factor any more", x.singular(0), -1);
    }

    // Promise 15

    private static void ends() {
        CHECKS.about("The least (0) or the greatest (1) number of a FACTOR that isn't 0; "
                + "-1 without one");
        for (int order = 1; order <= 4; order++) {
            RecurrenceAnswers none = new RecurrenceAnswers(order);
            none.right(0, 1, 1);
            none.put(0, 1);
            none.start(1);
            CHECKS.equal("none", none.end(0), -1);
            CHECKS.equal("none", none.end(1), -1);
            for (int least = 0; least <= order; least++) {
                for (int greatest = least; greatest <= order; greatest++) {
                    for (int power = 0; power <= 6; power++) {
                        RecurrenceAnswers x = new RecurrenceAnswers(order);
                        x.factor(least, power, P - 1, 1);
                        x.factor(greatest, power, 1, 1);
                        CHECKS.equal("the least", x.end(0), least);
                        CHECKS.equal("the greatest", x.end(1), greatest);
                        x.factor(least, power, 0, 1);
                        CHECKS.equal("the other", x.end(0), greatest == least ? -1 : greatest);
                        x.factor(greatest, power, P, 1);
                        CHECKS.equal("none any more", x.end(0), -1);
                        CHECKS.equal("none any more", x.end(1), -1);
                    }
                }
            }
        }
    }

    private static void endWhich() {
        CHECKS.about("IllegalArgumentException: another which");
        for (int which : new int[] {-1, 2, 3, LEAST, GREATEST}) {
            refused("which " + which, Sample.ALL, ARGUMENT, (x, r) -> x.end(which));
        }
    }

    // Promise 16

    private static void restPowers() {
        CHECKS.about("rest: powers aren't 0 .. 18");
        RecurrenceAnswers x = equation(1, row(4, 0, 0, 0, 0, 0, 9));
        x.put(0, 2);
        x.put(12, 3);
        x.right(10, 1, 1);
        CHECKS.equal("the least", x.rest(0), 8);
        CHECKS.equal("the greatest", x.rest(18), 27);
        CHECKS.equal("the right side's greatest", x.rest(10), P - 1);
        for (int power : new int[] {-1, 19, 20, LEAST, GREATEST}) {
            CHECKS.thrown("power " + power, ARGUMENT, () -> x.rest(power));
            refused("power " + power, Sample.ALL, ARGUMENT, (y, r) -> y.rest(power));
        }
    }

    private static void restWithoutPut() {
        CHECKS.about("those that put() told, others 0; the right side taken off");
        RecurrenceAnswers x = equation(4, row(1, 2), row(3), row(), row(), row(0, 0, 0, 0, 0, 0, 5));
        for (int power = 0; power <= 18; power++) {
            CHECKS.equal("nothing put", x.rest(power), 0);
        }
        for (int power = 0; power <= 10; power++) {
            x.right(power, power + 1, 1);
        }
        for (int power = 0; power <= 18; power++) {
            CHECKS.equal("less the right side", x.rest(power), power <= 10 ? P - 1 - power : 0);
        }
        RecurrenceAnswers none = new RecurrenceAnswers(1);
        none.right(10, 1, 1);
        none.put(12, 1);
        none.put(10, 1);
        for (int power = 0; power <= 18; power++) {
            CHECKS.equal("without factors", none.rest(power), power == 10 ? P - 1 : 0);
        }
        // n^6 y(n + 4) with n^12: n^6 (n + 4)^12.
        RecurrenceAnswers last = equation(4, row(), row(), row(), row(), row(0, 0, 0, 0, 0, 0, 1));
        last.put(12, 1);
        long[] due = withZeros(-4, -4, -4, -4, -4, -4, -4, -4, -4, -4, -4, -4);
        for (int power = 0; power <= 18; power++) {
            CHECKS.equal("n^6 (n + 4)^12", last.rest(power), power < 6 ? 0 : due[power - 6]);
        }
    }

    // Promise 17

    private static void putPowers() {
        CHECKS.about("put: powers aren't 0 .. 12");
        RecurrenceAnswers x = equation(1, row(1));
        CHECKS.yes("the least", x.put(0, 3));
        CHECKS.yes("the greatest", x.put(12, 4));
        CHECKS.equal("at the least", x.rest(0), 3);
        CHECKS.equal("at the greatest", x.rest(12), 4);
        for (int power : new int[] {-1, 13, 14, LEAST, GREATEST}) {
            refused("power " + power, Sample.ALL, ARGUMENT, (y, r) -> bit(y.put(power, 1)));
            refused("power " + power + " of 0", Sample.ALL, ARGUMENT,
                    (y, r) -> bit(y.put(power, 0)));
        }
    }

    private static void putAnother() {
        CHECKS.about("put: whether it is another one");
        for (int power = 0; power <= 12; power++) {
            RecurrenceAnswers x = equation(1, row(1));
            CHECKS.no("0 at first", x.put(power, 0));
            CHECKS.no("0 modulo", x.put(power, -P));
            CHECKS.yes("1", x.put(power, 1));
            CHECKS.no("1 again", x.put(power, 1));
            CHECKS.no("1 modulo", x.put(power, 1 + P));
            CHECKS.yes("-1", x.put(power, -1));
            CHECKS.no("32002", x.put(power, P - 1));
            CHECKS.yes("the least", x.put(power, LEAST));
            CHECKS.no("the least modulo", x.put(power, modulo(LEAST)));
            CHECKS.yes("the greatest", x.put(power, GREATEST));
            CHECKS.no("the greatest modulo", x.put(power, modulo(GREATEST)));
            for (int at = 0; at <= 18; at++) {
                CHECKS.equal("rest " + at, x.rest(at), at == power ? modulo(GREATEST) : 0);
            }
            CHECKS.yes("0", x.put(power, P));
            CHECKS.no("0 again", x.put(power, 0));
        }
    }

    // Promise 18

    private static void clearing() {
        CHECKS.about("All is as at first");
        Sample[] empty = {Sample.UNKNOWN[0], Sample.UNKNOWN[1]};
        answersWithoutChange("clear() of an empty one", empty, 0, (x, r) -> {
            x.clear();
            x.clear();
            return 0;
        });
        for (Sample sample : Sample.ALL) {
            RecurrenceAnswers x = sample.make();
            x.clear();
            allUnknown("cleared (" + sample.name + ")", x);
            CHECKS.equal("end", x.end(0), -1);
            CHECKS.equal("end", x.end(1), -1);
            CHECKS.equal("singular", x.singular(0), -1);
            CHECKS.equal("run", x.run(), 1);
            for (int power = 0; power <= 18; power++) {
                CHECKS.equal("rest " + power, x.rest(power), 0);
            }
            for (int power = 0; power <= 12; power++) {
                CHECKS.no("put " + power, x.put(power, 0));
            }
            for (int power = 0; power <= 10; power++) {
                CHECKS.no("right " + power, x.right(power, 0, 1));
            }
            for (int shift = 0; shift <= sample.order; shift++) {
                for (int power = 0; power <= 6; power++) {
                    CHECKS.no("factor " + shift + ", " + power, x.factor(shift, power, 0, 1));
                }
            }
            x.factor(1, 0, 1, 1);
            CHECKS.equal("no starts", x.value(0), -1);
            for (int i = 0; i < 12; i++) {
                CHECKS.yes("start " + i, x.start(i + 1));
            }
            CHECKS.no("no thirteenth", x.start(13));
            CHECKS.equal("the first", x.value(0), 1);
            CHECKS.equal("behind the last", x.value(12), 0);
        }
    }

    private static void clearingKeepsOrder() {
        CHECKS.about("the ORDER stays");
        for (int asked = 0; asked <= 5; asked++) {
            int order = Math.max(1, Math.min(4, asked));
            RecurrenceAnswers x = new RecurrenceAnswers(asked);
            for (int times = 0; times < 3; times++) {
                x.clear();
                CHECKS.yes("the last one", x.factor(order, 6, 1, 1));
                CHECKS.thrown("none behind it", NO_FACTOR,
                        () -> bit(x.factor(order + 1, 6, 1, 1)));
            }
        }
    }

    /** The calls that only ask, at the least and the greatest that they take. */
    private static void queriesChangeNothing() {
        CHECKS.about("Nothing is promised beyond the answers and state changes described");
        answersWithoutChange("asked", Sample.ALL, 0, (x, r) -> {
            x.value(300);
            x.value(0);
            x.singular(0);
            x.singular(5);
            x.end(0);
            x.end(1);
            x.rest(18);
            x.rest(0);
            return 0;
        });
        answersWithoutChange("asked", Sample.KNOWN, 0, (x, r) -> {
            x.polynomials();
            x.meets();
            x.powers();
            x.base(3);
            x.many(3);
            return 0;
        });
    }
}
