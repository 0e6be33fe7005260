/**
 * Linear recurrences whose factors are polynomials, over the field of 32003 numbers: all answers
 * that are polynomials, all that are powers of a number times polynomials, one that meets a right
 * side, and values from starts on, as far as they go.
 */
public final class RecurrenceAnswers {

    private static final int PRIME = 32003;
    private static final int LEAST_ORDER = 1;
    private static final int GREATEST_ORDER = 4;
    private static final int FACTOR_LENGTH = 7;
    private static final int RIGHT_LENGTH = 11;
    private static final int ANSWER_LENGTH = 13;
    private static final int REST_LENGTH = 19;
    private static final int MOST_STARTS = 12;
    private static final int VALUES_LENGTH = 301;

    private final Equation equation;
    private final LinearSystem system;
    private final Answers answers;
    private final Values values;
    private final Roots zeros;
    private boolean zerosKnown;
    private final int[] trial;

    public RecurrenceAnswers(int order) {
        equation = new Equation(Math.max(LEAST_ORDER, Math.min(GREATEST_ORDER, order)));
        system = new LinearSystem();
        answers = new Answers();
        values = new Values();
        zeros = new Roots();
        trial = new int[ANSWER_LENGTH];
    }

    public boolean factor(int shift, int power, long above, long below)
            throws ArrayIndexOutOfBoundsException, IllegalArgumentException, ArithmeticException {
        if (shift < 0 || shift > equation.order) {
            throw new ArrayIndexOutOfBoundsException("no such factor");
        }
        if (power < 0 || power >= FACTOR_LENGTH) {
            throw new IllegalArgumentException("powers are 0 .. 6");
        }
        if (Numbers.of(below) == 0) {
            throw new ArithmeticException("below is 0 modulo 32003");
        }
        return change(equation.factors[shift], power, Numbers.quotient(above, below));
    }

    public boolean right(int power, long above, long below)
            throws IllegalArgumentException, ArithmeticException {
        if (power < 0 || power >= RIGHT_LENGTH) {
            throw new IllegalArgumentException("powers are 0 .. 10");
        }
        if (Numbers.of(below) == 0) {
            throw new ArithmeticException("below is 0 modulo 32003");
        }
        return change(equation.rightSide, power, Numbers.quotient(above, below));
    }

    public int run() {
        if (equation.greatestShift() < 0) {
            return 1;
        }
        if (!answers.known) {
            answers.find(equation, system);
        }
        return 0;
    }

    public int polynomials() throws IllegalStateException {
        requireAnswers();
        return answers.row.size;
    }

    public int answer(int k, int power) throws IllegalStateException, IllegalArgumentException {
        requireAnswers();
        requireAnswerPower(power);
        if (k == -1 && answers.hasParticular) {
            return answers.particular[power];
        }
        if (k < 0 || k >= answers.row.size) {
            throw new IllegalArgumentException("no such answer");
        }
        return answers.row.numberAt(k, power);
    }

    public boolean meets() throws IllegalStateException {
        requireAnswers();
        return answers.hasParticular;
    }

    public int powers() throws IllegalStateException {
        requireAnswers();
        return answers.baseCount;
    }

    public int base(int k) throws IllegalStateException {
        requireAnswers();
        return answers.hasBase(k) ? answers.bases[k] : -1;
    }

    public int many(int k) throws IllegalStateException {
        requireAnswers();
        return answers.hasBase(k) ? answers.baseRows[k].size : -1;
    }

    public int times(int k, int i, int power)
            throws IllegalStateException, IllegalArgumentException {
        requireAnswers();
        requireAnswerPower(power);
        if (!answers.hasBase(k) || i < 0 || i >= answers.baseRows[k].size) {
            throw new IllegalArgumentException("no such answer");
        }
        return answers.baseRows[k].numberAt(i, power);
    }

    public boolean start(long v) {
        return values.addStart(Numbers.of(v));
    }

    public int value(int n) throws IllegalArgumentException {
        if (n < 0 || n >= VALUES_LENGTH) {
            throw new IllegalArgumentException("n is 0 .. 300");
        }
        return values.at(equation, n);
    }

    public int singular(int k) {
        int greatest = equation.greatestShift();
        if (greatest < 0) {
            return -1;
        }
        if (!zerosKnown) {
            zeros.find(equation.factors[greatest]);
            zerosKnown = true;
        }
        return zeros.at(k);
    }

    public int end(int which) throws IllegalArgumentException {
        if (which != 0 && which != 1) {
            throw new IllegalArgumentException("an end is 0 or 1");
        }
        return which == 0 ? equation.leastShift() : equation.greatestShift();
    }

    public int rest(int power) throws IllegalArgumentException {
        if (power < 0 || power >= REST_LENGTH) {
            throw new IllegalArgumentException("powers are 0 .. 18");
        }
        system.fill(equation, 1);
        return system.leftOver(trial, power);
    }

    public boolean put(int power, int v) throws IllegalArgumentException {
        requireAnswerPower(power);
        int number = Numbers.of(v);
        boolean another = trial[power] != number;
        trial[power] = number;
        return another;
    }

    public void clear() {
        equation.empty();
        values.empty();
        for (int power = 0; power < ANSWER_LENGTH; power++) {
            trial[power] = 0;
        }
        forgetConclusions();
    }

    private boolean change(int[] polynomial, int power, int number) {
        if (power < 0 || power >= polynomial.length || polynomial[power] == number) {
            return false;
        }
        polynomial[power] = number;
        forgetConclusions();
        return true;
    }

    private void forgetConclusions() {
        answers.known = false;
        values.forgetConclusions();
        zerosKnown = false;
    }

    private void requireAnswers() {
        if (!answers.known) {
            throw new IllegalStateException("the answers are not known");
        }
    }

    private static void requireAnswerPower(int power) {
        if (power < 0 || power >= ANSWER_LENGTH) {
            throw new IllegalArgumentException("powers are 0 .. 12");
        }
    }

    /** Numbers modulo 32003: the sum of two products of them still fits into an int. */
    private static final class Numbers {

        static int of(long v) {
            return (int) Math.floorMod(v, (long) PRIME);
        }

        /** Fermat's power instead of a division: it needs no divisor, and makes 0 of 0. */
        static int inverse(int number) {
            int result = 1;
            int square = number;
            for (int exponent = PRIME - 2; exponent > 0; exponent >>= 1) {
                if ((exponent & 1) == 1) {
                    result = result * square % PRIME;
                }
                square = square * square % PRIME;
            }
            return result;
        }

        static int quotient(long above, long below) {
            return of(above) * inverse(of(below)) % PRIME;
        }

        static int negative(int number) {
            return number == 0 ? 0 : PRIME - number;
        }

        /** What is left of a number when a product is taken off it. */
        static int less(int number, int a, int b) {
            int difference = number - a * b % PRIME;
            return difference < 0 ? difference + PRIME : difference;
        }
    }

    /** Polynomials as rows of numbers, the number at a power standing at that index. */
    private static final class Polynomials {

        /** The greatest power whose number isn't 0; -1 for the polynomial 0. */
        static int degree(int[] polynomial) {
            for (int power = polynomial.length - 1; power >= 0; power--) {
                if (polynomial[power] != 0) {
                    return power;
                }
            }
            return -1;
        }

        static int valueAt(int[] polynomial, int n) {
            int sum = 0;
            for (int power = polynomial.length - 1; power >= 0; power--) {
                sum = (sum * n + polynomial[power]) % PRIME;
            }
            return sum;
        }

        static void makeMonic(int[] polynomial) {
            int top = degree(polynomial);
            if (top < 0 || polynomial[top] == 1) {
                return;
            }
            int scale = Numbers.inverse(polynomial[top]);
            for (int power = 0; power <= top; power++) {
                polynomial[power] = polynomial[power] * scale % PRIME;
            }
        }

        /** Multiplies by the letter plus a number; a power beyond the row's length is dropped. */
        static void multiplyByLinear(int[] polynomial, int number) {
            for (int power = polynomial.length - 1; power >= 1; power--) {
                polynomial[power] = (polynomial[power] * number + polynomial[power - 1]) % PRIME;
            }
            if (polynomial.length > 0) {
                polynomial[0] = polynomial[0] * number % PRIME;
            }
        }

        /** Leaves of the first what a division by the second, which is monic, leaves. */
        static void reduceBy(int[] polynomial, int[] monic) {
            int top = degree(monic);
            if (top < 0) {
                return;
            }
            for (int power = polynomial.length - 1; power >= top; power--) {
                int lead = polynomial[power];
                if (lead == 0) {
                    continue;
                }
                for (int i = 0; i <= top; i++) {
                    int at = power - top + i;
                    polynomial[at] = Numbers.less(polynomial[at], lead, monic[i]);
                }
            }
        }
    }

    /** The factors and the right side. */
    private static final class Equation {
        final int order;
        final int[][] factors = new int[GREATEST_ORDER + 1][FACTOR_LENGTH];
        final int[] rightSide = new int[RIGHT_LENGTH];

        Equation(int order) {
            this.order = order;
        }

        int leastShift() {
            for (int shift = 0; shift <= GREATEST_ORDER; shift++) {
                if (Polynomials.degree(factors[shift]) >= 0) {
                    return shift;
                }
            }
            return -1;
        }

        int greatestShift() {
            for (int shift = GREATEST_ORDER; shift >= 0; shift--) {
                if (Polynomials.degree(factors[shift]) >= 0) {
                    return shift;
                }
            }
            return -1;
        }

        int greatestDegree() {
            int greatest = -1;
            for (int shift = 0; shift <= GREATEST_ORDER; shift++) {
                greatest = Math.max(greatest, Polynomials.degree(factors[shift]));
            }
            return greatest;
        }

        void empty() {
            for (int shift = 0; shift <= GREATEST_ORDER; shift++) {
                for (int power = 0; power < FACTOR_LENGTH; power++) {
                    factors[shift][power] = 0;
                }
            }
            for (int power = 0; power < RIGHT_LENGTH; power++) {
                rightSide[power] = 0;
            }
        }
    }

    /** The starts, and the values that the equation made of them so far. */
    private static final class Values {
        private final int[] numbers = new int[VALUES_LENGTH];
        private int starts;
        private int known;

        boolean addStart(int number) {
            if (starts >= MOST_STARTS) {
                return false;
            }
            numbers[starts] = number;
            starts++;
            known = starts;
            return true;
        }

        void forgetConclusions() {
            known = starts;
        }

        void empty() {
            starts = 0;
            known = 0;
        }

        int at(Equation equation, int n) {
            int greatest = equation.greatestShift();
            if (n < 0 || n >= VALUES_LENGTH || greatest < 0 || starts < greatest) {
                return -1;
            }
            for (int next = known; next <= n; next++) {
                int place = next - greatest;
                int lead = Polynomials.valueAt(equation.factors[greatest], place);
                if (lead == 0) {
                    return -1;
                }
                numbers[next] = demand(equation, greatest, place) * Numbers.inverse(lead) % PRIME;
                known = next + 1;
            }
            return numbers[n];
        }

        /** What the last term must be for the equation to hold at a place. */
        private int demand(Equation equation, int greatest, int place) {
            int sum = Polynomials.valueAt(equation.rightSide, place);
            for (int shift = 0; shift < greatest; shift++) {
                int factor = Polynomials.valueAt(equation.factors[shift], place);
                sum = Numbers.less(sum, factor, numbers[place + shift]);
            }
            return sum;
        }
    }

    /** Polynomials that are answers, side by side, the least head first. */
    private static final class Row {
        private final int[] numbers = new int[ANSWER_LENGTH * ANSWER_LENGTH];
        int size;

        int numberAt(int k, int power) {
            int at = k * ANSWER_LENGTH + power;
            return at < 0 || at >= numbers.length ? 0 : numbers[at];
        }

        void setNumberAt(int k, int power, int number) {
            int at = k * ANSWER_LENGTH + power;
            if (at >= 0 && at < numbers.length) {
                numbers[at] = number;
            }
        }
    }

    /**
     * What the equation demands of the 13 numbers of an answer: a line for each power that must
     * come out right, a column for each number, the right side in the column behind them.
     */
    private static final class LinearSystem {
        private final int[][] cells = new int[REST_LENGTH][ANSWER_LENGTH + 1];
        private final boolean[] lineUsed = new boolean[REST_LENGTH];
        private final int[] pivotLine = new int[ANSWER_LENGTH];
        private final int[] term = new int[REST_LENGTH];

        /** For answers that are z to the power of n times a polynomial, z^n taken out. */
        void fill(Equation equation, int z) {
            for (int line = 0; line < REST_LENGTH; line++) {
                for (int column = 0; column < ANSWER_LENGTH; column++) {
                    cells[line][column] = 0;
                }
                cells[line][ANSWER_LENGTH] = line < RIGHT_LENGTH ? equation.rightSide[line] : 0;
            }
            int scale = 1;
            for (int shift = 0; shift <= GREATEST_ORDER; shift++) {
                addFactor(equation.factors[shift], shift, scale);
                scale = scale * z % PRIME;
            }
        }

        private void addFactor(int[] factor, int shift, int scale) {
            if (Polynomials.degree(factor) < 0) {
                return;
            }
            for (int power = 0; power < REST_LENGTH; power++) {
                term[power] = power < factor.length ? factor[power] * scale % PRIME : 0;
            }
            for (int column = 0; column < ANSWER_LENGTH; column++) {
                for (int line = 0; line < REST_LENGTH; line++) {
                    cells[line][column] = (cells[line][column] + term[line]) % PRIME;
                }
                Polynomials.multiplyByLinear(term, shift);
            }
        }

        int leftOver(int[] polynomial, int line) {
            if (line < 0 || line >= REST_LENGTH) {
                return 0;
            }
            int sum = Numbers.negative(cells[line][ANSWER_LENGTH]);
            for (int column = 0; column < ANSWER_LENGTH && column < polynomial.length; column++) {
                sum = (sum + cells[line][column] * polynomial[column]) % PRIME;
            }
            return sum;
        }

        /**
         * The columns go from the least power up, so that a column without a pivot depends on
         * lower powers alone: it is the head of an answer.
         */
        void eliminate() {
            for (int line = 0; line < REST_LENGTH; line++) {
                lineUsed[line] = false;
            }
            for (int column = 0; column < ANSWER_LENGTH; column++) {
                int pivot = freeLine(column);
                pivotLine[column] = pivot;
                if (pivot >= 0) {
                    lineUsed[pivot] = true;
                    scaleLine(pivot, Numbers.inverse(cells[pivot][column]));
                    clearColumn(column, pivot);
                }
            }
        }

        private int freeLine(int column) {
            for (int line = 0; line < REST_LENGTH; line++) {
                if (!lineUsed[line] && cells[line][column] != 0) {
                    return line;
                }
            }
            return -1;
        }

        private void scaleLine(int line, int scale) {
            for (int i = 0; i <= ANSWER_LENGTH; i++) {
                cells[line][i] = cells[line][i] * scale % PRIME;
            }
        }

        private void clearColumn(int column, int pivot) {
            for (int line = 0; line < REST_LENGTH; line++) {
                int scale = cells[line][column];
                if (line == pivot || scale == 0) {
                    continue;
                }
                for (int i = column; i <= ANSWER_LENGTH; i++) {
                    cells[line][i] = Numbers.less(cells[line][i], scale, cells[pivot][i]);
                }
            }
        }

        void copyRowTo(Row row) {
            row.size = 0;
            for (int head = 0; head < ANSWER_LENGTH; head++) {
                if (pivotLine[head] >= 0) {
                    continue;
                }
                for (int power = 0; power < ANSWER_LENGTH; power++) {
                    int line = pivotLine[power];
                    int number = line >= 0 ? Numbers.negative(cells[line][head]) : 0;
                    row.setNumberAt(row.size, power, power == head ? 1 : number);
                }
                row.size++;
            }
        }

        /** Whether there is one; heads have no pivot, so that 0 stands there. */
        boolean copyParticularTo(int[] particular) {
            for (int line = 0; line < REST_LENGTH; line++) {
                if (!lineUsed[line] && cells[line][ANSWER_LENGTH] != 0) {
                    return false;
                }
            }
            for (int power = 0; power < ANSWER_LENGTH && power < particular.length; power++) {
                int line = pivotLine[power];
                particular[power] = line >= 0 ? cells[line][ANSWER_LENGTH] : 0;
            }
            return true;
        }
    }

    /** What run() finds. */
    private static final class Answers {
        private final Roots candidates = new Roots();
        private final int[] topNumbers = new int[FACTOR_LENGTH];
        boolean known;
        final Row row = new Row();
        boolean hasParticular;
        final int[] particular = new int[ANSWER_LENGTH];
        int baseCount;
        final int[] bases = new int[GREATEST_ORDER];
        final Row[] baseRows = new Row[GREATEST_ORDER];

        Answers() {
            for (int k = 0; k < GREATEST_ORDER; k++) {
                baseRows[k] = new Row();
            }
        }

        boolean hasBase(int k) {
            return k >= 0 && k < baseCount;
        }

        void find(Equation equation, LinearSystem system) {
            system.fill(equation, 1);
            system.eliminate();
            system.copyRowTo(row);
            hasParticular = system.copyParticularTo(particular);
            collectTopNumbers(equation);
            candidates.find(topNumbers);
            findBases(equation, system);
            known = true;
        }

        private void findBases(Equation equation, LinearSystem system) {
            baseCount = 0;
            for (int k = 0; k < candidates.count && baseCount < GREATEST_ORDER; k++) {
                int z = candidates.at(k);
                if (z <= 0) {
                    continue;
                }
                system.fill(equation, z);
                system.eliminate();
                system.copyRowTo(baseRows[baseCount]);
                if (baseRows[baseCount].size > 0) {
                    bases[baseCount] = z;
                    baseCount++;
                }
            }
        }

        /**
         * The highest power that can come out of z^n times a polynomial has as its number the
         * polynomial's head times the sum of z^i times the number of factor i at the factors'
         * greatest degree: only the roots of that sum, four at most, can be bases.
         */
        private void collectTopNumbers(Equation equation) {
            int top = equation.greatestDegree();
            for (int shift = 0; shift < FACTOR_LENGTH; shift++) {
                boolean inside = shift <= GREATEST_ORDER && top >= 0;
                topNumbers[shift] = inside ? equation.factors[shift][top] : 0;
            }
        }
    }

    /**
     * The roots of a polynomial of a degree up to 6, in order. They are split off one another by
     * powers of polynomials: to try all 32003 numbers would be by far the dearest work here.
     */
    private static final class Roots {
        private static final int HALF = (PRIME - 1) / 2;
        private static final int TOP_BIT = 14;

        private final int[] found = new int[FACTOR_LENGTH - 1];
        private final int[] remaining = new int[FACTOR_LENGTH];
        private final int[] part = new int[FACTOR_LENGTH];
        private final int[] piece = new int[FACTOR_LENGTH];
        private final int[] power = new int[FACTOR_LENGTH];
        private final int[] square = new int[2 * FACTOR_LENGTH - 1];
        int count;

        /** The k-th root; -1 if there is none such. */
        int at(int k) {
            return k >= 0 && k < count && k < found.length ? found[k] : -1;
        }

        /** The polynomial 0, whose roots are all numbers, is never asked; it would find none. */
        void find(int[] polynomial) {
            count = 0;
            for (int i = 0; i < FACTOR_LENGTH; i++) {
                remaining[i] = i < polynomial.length ? polynomial[i] : 0;
            }
            Polynomials.makeMonic(remaining);
            keepSimpleRoots();
            for (int left = Polynomials.degree(remaining); left > 0; left--) {
                int root = splitOffRoot();
                insert(root);
                divideOut(root);
            }
        }

        /** The letter to the power of 32003, less the letter, has every number as a root, once. */
        private void keepSimpleRoots() {
            if (Polynomials.degree(remaining) <= 0) {
                return;
            }
            raiseLinear(0, PRIME, remaining);
            power[1] = Numbers.less(power[1], 1, 1);
            keepCommonDivisor(remaining, power);
        }

        /**
         * Of two roots r and s exactly one of the shifts -r and -s parts them, as -1 is no square
         * modulo 32003: so once all shifts were tried a single root is left.
         */
        private int splitOffRoot() {
            System.arraycopy(remaining, 0, part, 0, FACTOR_LENGTH);
            for (int shift = 0; shift < PRIME && Polynomials.degree(part) > 1; shift++) {
                raiseLinear(shift, HALF, part);
                power[0] = Numbers.less(power[0], 1, 1);
                System.arraycopy(part, 0, piece, 0, FACTOR_LENGTH);
                keepCommonDivisor(piece, power);
                int degree = Polynomials.degree(piece);
                if (degree > 0 && degree < Polynomials.degree(part)) {
                    System.arraycopy(piece, 0, part, 0, FACTOR_LENGTH);
                }
            }
            return Numbers.negative(part[0]);
        }

        /** Into the row power: the letter plus a number, to an exponent, modulo a polynomial. */
        private void raiseLinear(int number, int exponent, int[] modulus) {
            for (int i = 0; i < FACTOR_LENGTH; i++) {
                power[i] = i == 0 ? 1 : 0;
            }
            for (int bit = TOP_BIT; bit >= 0; bit--) {
                squarePower();
                Polynomials.reduceBy(square, modulus);
                System.arraycopy(square, 0, power, 0, FACTOR_LENGTH);
                if ((exponent >> bit & 1) == 1) {
                    Polynomials.multiplyByLinear(power, number);
                    Polynomials.reduceBy(power, modulus);
                }
            }
        }

        /** Into the row square; the row power is too short for it. */
        private void squarePower() {
            for (int i = 0; i < square.length; i++) {
                square[i] = 0;
            }
            int top = Polynomials.degree(power);
            for (int i = 0; i <= top; i++) {
                for (int j = 0; j <= top; j++) {
                    square[i + j] = (square[i + j] + power[i] * power[j]) % PRIME;
                }
            }
        }

        /** Leaves in the first what divides both, monic; the second is used up. */
        private static void keepCommonDivisor(int[] first, int[] second) {
            int[] greater = first;
            int[] lesser = second;
            for (int i = 0; i <= FACTOR_LENGTH && Polynomials.degree(lesser) >= 0; i++) {
                Polynomials.makeMonic(lesser);
                Polynomials.reduceBy(greater, lesser);
                int[] reduced = greater;
                greater = lesser;
                lesser = reduced;
            }
            System.arraycopy(greater, 0, first, 0, FACTOR_LENGTH);
        }

        private void insert(int root) {
            if (count >= found.length) {
                return;
            }
            int at = count;
            while (at > 0 && found[at - 1] > root) {
                found[at] = found[at - 1];
                at--;
            }
            found[at] = root;
            count++;
        }

        /** Horner's scheme: what it holds at each power is the quotient's number one below. */
        private void divideOut(int root) {
            int carried = 0;
            for (int i = FACTOR_LENGTH - 1; i >= 0; i--) {
                int next = (remaining[i] + carried * root) % PRIME;
                remaining[i] = carried;
                carried = next;
            }
        }
    }
}
