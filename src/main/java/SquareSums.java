import java.util.Arrays;

/**
 * Inequalities of the second degree: a form is proved to be nowhere below 0 by squares with
 * weights, in exact fractions, or a point is told where it is below 0. README.md tells how to use it.
 */
public final class SquareSums {
    public static final int BAD = -1, STATE = -2, FULL = -3, LONG = -30;

    private static final int FEWEST_VARIABLES = 1;
    private static final int FIRST_VARIABLES = 2;
    private static final int MOST_VARIABLES = 4;
    private static final int INDICES = MOST_VARIABLES + 1;
    private static final int MOST_FORMS = 12;
    private static final int LARGEST_NUMBER = 1000000;
    private static final int BAD_TERM = -2000000;
    private static final int FARTHEST_WHOLE = 1000;
    private static final int FINEST = 20;
    private static final int GRID_END = 3;
    private static final int LAST_DOUBLING = 40;
    private static final int FIRST_TURN_BY_ZERO = -10;

    // What a PROOF answers. An elimination answers alike: NEGATIVE, DONE, TOO LONG.
    private static final int REFUTED = 0;
    private static final int PROVED = 1;
    private static final int UNSETTLED = 2;

    // The places of the row that told() reads.
    private static final int ANSWER = 0;
    private static final int SQUARES = 1;
    private static final int GOAL = 2;
    private static final int CONDITION = 3;
    private static final int MULTIPLIER_UP = 4;
    private static final int MULTIPLIER_DOWN = 5;
    private static final int TRIED = 6;
    private static final int TOLD_PLACES = 7;

    private static final int NONE = -1;

    // The least long is TOO LONG itself, so it can stand for every number that does not fit.
    private static final long TOO_LONG = 1L << 63;

    // Euclid's steps on longs stay under 100.
    private static final int MOST_DIVISOR_STEPS = 200;

    // How the bits of a double are laid out.
    private static final int MANTISSA_BITS = 52;
    private static final int EXPONENT_OF_ONE = 1023;
    private static final int LONG_BITS = 64;

    private final Form[] forms = new Form[MOST_FORMS];
    private final int[] latest = new int[TOLD_PLACES];
    private final long[] whole = new long[INDICES];
    private final Matrix provedMatrix = new Matrix();
    private final Elimination proof = new Elimination();
    // plain() works in rows of its own, for the squares of the latest proof outlive it.
    private final Elimination unlooking = new Elimination();
    private final Point place = new Point();
    private final Fraction multiplier = new Fraction();
    private final Fraction expanded = new Fraction();
    private final Fraction item = new Fraction();
    private int variableCount = FIRST_VARIABLES;
    private int formCount = 0;
    private int proofCount = 0;

    public SquareSums() {
        for (int f = 0; f < MOST_FORMS; f++) {
            forms[f] = new Form();
        }
    }

    public int variables(int n) {
        if (n < FEWEST_VARIABLES || n > MOST_VARIABLES) {
            return BAD;
        }
        int before = formCount;
        variableCount = n;
        formCount = 0;
        proofCount = 0;
        Arrays.fill(latest, 0);
        place.there = false;
        return before;
    }

    public int form() {
        if (formCount >= MOST_FORMS) {
            return FULL;
        }
        forms[formCount].clear();
        formCount++;
        return formCount - 1;
    }

    public int term(int form, int i, int j, int v) {
        if (!isForm(form) || !isIndex(i) || !isIndex(j)) {
            return BAD_TERM;
        }
        if (v < -LARGEST_NUMBER || v > LARGEST_NUMBER) {
            return BAD_TERM;
        }
        return forms[form].replace(i, j, v);
    }

    public long value(int form, int a, int b, int c, int d) {
        if (!isForm(form)) {
            return BAD;
        }
        whole[0] = 1;
        whole[1] = a;
        whole[2] = b;
        whole[3] = c;
        whole[4] = d;
        for (int k = 1; k <= variableCount; k++) {
            if (whole[k] < -FARTHEST_WHOLE || whole[k] > FARTHEST_WHOLE) {
                return BAD;
            }
        }
        return forms[form].atWhole(whole, variableCount);
    }

    public int plain(int form) {
        if (!isForm(form)) {
            return BAD;
        }
        return unlooking.runWithoutLooking(forms[form], variableCount);
    }

    public int prove(int form) {
        if (!isForm(form)) {
            return BAD;
        }
        startTelling(form, NONE);
        provedMatrix.take(forms[form], variableCount);
        int answer = proof.run(provedMatrix, variableCount);
        if (answer == REFUTED) {
            boolean found = proof.findNegative() && place.byWitness(proof.witness, forms[form], variableCount);
            answer = found ? REFUTED : UNSETTLED;
        }
        return endTelling(answer);
    }

    public int under(int goal, int condition, int finer) {
        if (!isForm(goal) || !isForm(condition) || finer < 1 || finer > FINEST) {
            return BAD;
        }
        startTelling(goal, condition);
        if (multiplierFound(forms[goal], forms[condition], finer)) {
            return endTelling(PROVED);
        }
        if (wholePointFound(forms[goal], forms[condition])) {
            return endTelling(REFUTED);
        }
        return endTelling(UNSETTLED);
    }

    public int told(int what) {
        if (what < 0 || what >= TOLD_PLACES) {
            return BAD;
        }
        if (proofCount == 0) {
            return STATE;
        }
        return latest[what];
    }

    public long weight(int i, int part) {
        if (!isSquare(i) || !isPart(part)) {
            return 0;
        }
        return proof.squares[i].scale.part(part);
    }

    public long line(int i, int k, int part) {
        if (!isSquare(i) || !isIndex(k) || !isPart(part)) {
            return 0;
        }
        return proof.squares[i].row[k].part(part);
    }

    public long point(int k, int part) {
        if (!place.there || k == 0 || !isIndex(k) || !isPart(part)) {
            return 0;
        }
        return place.x[k].part(part);
    }

    public long near(int i) {
        if (!isSquare(i)) {
            return 0;
        }
        Fraction scale = proof.squares[i].scale;
        return bits((double) scale.up / (double) scale.down);
    }

    public int plant(int i, long up, long down) {
        if (!isSquare(i) || down == 0) {
            return BAD;
        }
        return proof.squares[i].scale.put(up, down) ? 0 : LONG;
    }

    public int check() {
        if (!isProved()) {
            return STATE;
        }
        boolean same = true;
        for (int i = 0; i <= variableCount; i++) {
            for (int j = 0; j <= variableCount; j++) {
                if (!expand(i, j)) {
                    return UNSETTLED;
                }
                same = same && expanded.isSame(provedMatrix.at(i, j));
            }
        }
        return same ? 1 : 0;
    }

    public int equal() {
        if (!isProved()) {
            return STATE;
        }
        place.there = false;
        if (!proof.left[0]) {
            return 0;
        }
        if (!proof.findZero() || !place.byQuotients(proof.witness, variableCount)) {
            return UNSETTLED;
        }
        place.there = true;
        return 1;
    }

    public long pivot(long v, long d) {
        return d == 0 ? LONG : v / d;
    }

    public int count(int what) {
        switch (what) {
            case 0:
                return variableCount;
            case 1:
                return formCount;
            case 2:
                return proofCount;
            default:
                return BAD;
        }
    }

    private boolean isForm(int form) {
        return form >= 0 && form < formCount;
    }

    private boolean isIndex(int i) {
        return i >= 0 && i <= variableCount;
    }

    private boolean isSquare(int i) {
        return i >= 0 && i < latest[SQUARES];
    }

    private static boolean isPart(int part) {
        return part == 0 || part == 1;
    }

    private boolean isProved() {
        return latest[ANSWER] == PROVED;
    }

    private void startTelling(int goal, int condition) {
        Arrays.fill(latest, 0);
        latest[GOAL] = goal;
        latest[CONDITION] = condition;
        latest[MULTIPLIER_DOWN] = 1;
        proofCount++;
    }

    private int endTelling(int answer) {
        latest[ANSWER] = answer;
        latest[SQUARES] = answer == PROVED ? proof.squareCount : 0;
        place.there = answer == REFUTED;
        return answer;
    }

    /** Tries the multipliers in their order; the squares are then those of the first one that does. */
    private boolean multiplierFound(Form goal, Form condition, int finer) {
        for (int s = 1; s <= finer; s++) {
            for (int q = 1; q <= s; q++) {
                int p = s - q;
                if (Fraction.commonDivisor(p, q) != 1) {
                    continue;
                }
                latest[TRIED]++;
                boolean fits = multiplier.put(p, q)
                        && provedMatrix.takeLess(goal, condition, multiplier, variableCount);
                if (fits && proof.run(provedMatrix, variableCount) == PROVED) {
                    latest[MULTIPLIER_UP] = p;
                    latest[MULTIPLIER_DOWN] = q;
                    return true;
                }
            }
        }
        return false;
    }

    private boolean wholePointFound(Form goal, Form condition) {
        int points = 1;
        whole[0] = 1;
        for (int k = 1; k <= variableCount; k++) {
            whole[k] = -GRID_END;
            points *= 2 * GRID_END + 1;
        }
        for (int turn = 0; turn < points; turn++) {
            if (condition.atWhole(whole, variableCount) >= 0 && goal.atWhole(whole, variableCount) < 0) {
                place.takeWhole(whole, variableCount);
                return true;
            }
            nextOnGrid();
        }
        return false;
    }

    /** The last variable goes fastest, since each X 1 is held for all of the others. */
    private void nextOnGrid() {
        for (int k = variableCount; k >= 1; k--) {
            if (whole[k] < GRID_END) {
                whole[k]++;
                return;
            }
            whole[k] = -GRID_END;
        }
    }

    /** Item i j of all squares goes into expanded; false if something is TOO LONG. */
    private boolean expand(int i, int j) {
        expanded.put(0, 1);
        for (int s = 0; s < latest[SQUARES]; s++) {
            Square square = proof.squares[s];
            boolean fits = item.product(square.scale, square.row[i])
                    && item.product(item, square.row[j])
                    && expanded.sum(expanded, item);
            if (!fits) {
                return false;
            }
        }
        return true;
    }

    /**
     * The bits of a double that is 0 or of a size that is a quotient of two longs, so no exponent
     * is out of the ordinary; they are put together here as the library's own function is not to be used.
     */
    private static long bits(double d) {
        if (d == 0) {
            return 0;
        }
        double size = d < 0 ? -d : d;
        long exponent = EXPONENT_OF_ONE;
        for (int step = 0; step < LONG_BITS && size >= 2.0; step++) {
            size = size / 2.0;
            exponent++;
        }
        for (int step = 0; step < LONG_BITS && size < 1.0; step++) {
            size = size * 2.0;
            exponent--;
        }
        long one = 1L << MANTISSA_BITS;
        long mantissa = (long) (size * (double) one) - one;
        long sign = d < 0 ? 1L << (LONG_BITS - 1) : 0;
        return sign | (exponent << MANTISSA_BITS) | mantissa;
    }

    /** The index at a place (0 .. n) of THE ORDER. */
    private static int inOrder(int place, int n) {
        return place < n ? place + 1 : 0;
    }

    private static Fraction[] rowOfFractions(int length) {
        Fraction[] row = new Fraction[length];
        for (int k = 0; k < length; k++) {
            row[k] = new Fraction();
        }
        return row;
    }

    /**
     * A number up / down in lowest terms, down above 0. It is changed in place, so that no call
     * makes objects; an answer false is TOO LONG and leaves it as it was.
     */
    private static final class Fraction {
        private long up = 0;
        private long down = 1;

        boolean put(long newUp, long newDown) {
            if (newUp == TOO_LONG || newDown == TOO_LONG || newDown == 0) {
                return false;
            }
            long divisor = commonDivisor(newUp, newDown);
            if (divisor == 0) {
                return false;
            }
            if (newDown < 0) {
                divisor = -divisor;
            }
            up = newUp / divisor;
            down = newDown / divisor;
            return true;
        }

        void copy(Fraction other) {
            up = other.up;
            down = other.down;
        }

        boolean sum(Fraction a, Fraction b) {
            return put(plus(times(a.up, b.down), times(b.up, a.down)), times(a.down, b.down));
        }

        boolean difference(Fraction a, Fraction b) {
            return put(minus(times(a.up, b.down), times(b.up, a.down)), times(a.down, b.down));
        }

        boolean product(Fraction a, Fraction b) {
            return put(times(a.up, b.up), times(a.down, b.down));
        }

        boolean quotient(Fraction a, Fraction b) {
            return put(times(a.up, b.down), times(a.down, b.up));
        }

        int sign() {
            return Long.compare(up, 0);
        }

        boolean isSame(Fraction other) {
            return up == other.up && down == other.down;
        }

        long part(int which) {
            return which == 0 ? up : down;
        }

        /** The greatest common divisor of numbers that are not the least long. */
        static long commonDivisor(long a, long b) {
            long x = a < 0 ? -a : a;
            long y = b < 0 ? -b : b;
            for (int step = 0; step < MOST_DIVISOR_STEPS && y != 0; step++) {
                long rest = x % y;
                x = y;
                y = rest;
            }
            return x;
        }

        private static long times(long a, long b) {
            long product = a * b;
            return a != 0 && product / a != b ? TOO_LONG : product;
        }

        private static long plus(long a, long b) {
            long sum = a + b;
            boolean wraps = ((a ^ sum) & (b ^ sum)) < 0;
            return wraps || a == TOO_LONG || b == TOO_LONG ? TOO_LONG : sum;
        }

        private static long minus(long a, long b) {
            long difference = a - b;
            boolean wraps = ((a ^ b) & (a ^ difference)) < 0;
            return wraps || a == TOO_LONG || b == TOO_LONG ? TOO_LONG : difference;
        }
    }

    /** The numbers v i j, each held once, at the smaller index first. */
    private static final class Form {
        private final int[] numbers = new int[INDICES * INDICES];

        void clear() {
            Arrays.fill(numbers, 0);
        }

        int number(int i, int j) {
            return numbers[Math.min(i, j) * INDICES + Math.max(i, j)];
        }

        int replace(int i, int j, int v) {
            int before = number(i, j);
            numbers[Math.min(i, j) * INDICES + Math.max(i, j)] = v;
            return before;
        }

        /** Its limits keep every value far inside a long. */
        long atWhole(long[] x, int n) {
            long sum = 0;
            for (int i = 0; i <= n; i++) {
                long inner = 0;
                for (int j = i; j <= n; j++) {
                    inner += numbers[i * INDICES + j] * x[j];
                }
                sum += inner * x[i];
            }
            return sum;
        }
    }

    /** A symmetric matrix; its items i j and j i are held both. */
    private static final class Matrix {
        private final Fraction[] items = rowOfFractions(INDICES * INDICES);
        private final Fraction other = new Fraction();

        Fraction at(int i, int j) {
            return items[i * INDICES + j];
        }

        void take(Form form, int n) {
            for (int i = 0; i <= n; i++) {
                for (int j = 0; j <= n; j++) {
                    at(i, j).put(form.number(i, j), i == j ? 1 : 2);
                }
            }
        }

        /** The goal's matrix less a multiple of the condition's; false if something is TOO LONG. */
        boolean takeLess(Form goal, Form condition, Fraction multiple, int n) {
            take(goal, n);
            for (int i = 0; i <= n; i++) {
                for (int j = i; j <= n; j++) {
                    boolean fits = other.put(condition.number(i, j), i == j ? 1 : 2)
                            && other.product(multiple, other)
                            && at(i, j).difference(at(i, j), other);
                    if (!fits) {
                        return false;
                    }
                    at(j, i).copy(at(i, j));
                }
            }
            return true;
        }

        void copy(Matrix from) {
            for (int k = 0; k < items.length; k++) {
                items[k].copy(from.items[k]);
            }
        }
    }

    /** A weight times the square of a line, which has 1 at its pivot. */
    private static final class Square {
        private final Fraction scale = new Fraction();
        private final Fraction[] row = rowOfFractions(INDICES);
        private int pivotIndex = 0;

        void start(int k, Fraction newScale) {
            pivotIndex = k;
            scale.copy(newScale);
            for (int j = 0; j < INDICES; j++) {
                row[j].put(j == k ? 1 : 0, 1);
            }
        }
    }

    /** The elimination of a matrix, with the squares that it makes and the numbers V of a witness. */
    private static final class Elimination {
        private final Matrix matrix = new Matrix();
        private final boolean[] left = new boolean[INDICES];
        private final Square[] squares = new Square[INDICES];
        private final Fraction[] witness = rowOfFractions(INDICES);
        private final Fraction product = new Fraction();
        private final Fraction total = new Fraction();
        private int n = 0;
        private int squareCount = 0;
        private int firstNegative = 0;
        private int secondNegative = NONE;

        Elimination() {
            for (int s = 0; s < INDICES; s++) {
                squares[s] = new Square();
            }
        }

        /** PROVED if it is DONE, REFUTED if NEGATIVE, UNSETTLED if something is TOO LONG. */
        int run(Matrix from, int variables) {
            matrix.copy(from);
            start(variables);
            for (int turn = 0; turn <= n; turn++) {
                int below = firstLeftOfSign(-1);
                if (below != NONE) {
                    firstNegative = below;
                    secondNegative = NONE;
                    return REFUTED;
                }
                int k = firstLeftOfSign(1);
                if (k == NONE) {
                    return findPair() ? REFUTED : PROVED;
                }
                if (!makeSquare(k) || !lessen(k)) {
                    return UNSETTLED;
                }
            }
            return PROVED;
        }

        /** What plain() answers. */
        int runWithoutLooking(Form form, int variables) {
            matrix.take(form, variables);
            start(variables);
            int above = 0;
            for (int turn = 0; turn <= n; turn++) {
                int k = inOrder(turn, n);
                int sign = matrix.at(k, k).sign();
                if (sign == 0) {
                    return FIRST_TURN_BY_ZERO - turn;
                }
                if (sign > 0) {
                    above++;
                }
                if (!makeSquare(k) || !lessen(k)) {
                    return LONG;
                }
            }
            return above;
        }

        /** The witness of a matrix that was found NEGATIVE; false if something is TOO LONG. */
        boolean findNegative() {
            clearWitness();
            witness[firstNegative].put(1, 1);
            if (secondNegative != NONE) {
                boolean above = matrix.at(firstNegative, secondNegative).sign() > 0;
                witness[secondNegative].put(above ? -1 : 1, 1);
            }
            return goBack();
        }

        /** The witness with V 0 as 1, at which all lines are 0; false if something is TOO LONG. */
        boolean findZero() {
            clearWitness();
            witness[0].put(1, 1);
            return goBack();
        }

        private void start(int variables) {
            n = variables;
            squareCount = 0;
            for (int k = 0; k < INDICES; k++) {
                left[k] = k <= n;
            }
        }

        private int firstLeftOfSign(int sign) {
            for (int turn = 0; turn <= n; turn++) {
                int k = inOrder(turn, n);
                if (left[k] && matrix.at(k, k).sign() == sign) {
                    return k;
                }
            }
            return NONE;
        }

        private boolean findPair() {
            for (int first = 0; first <= n; first++) {
                int i = inOrder(first, n);
                for (int second = first + 1; second <= n; second++) {
                    int j = inOrder(second, n);
                    if (left[i] && left[j] && matrix.at(i, j).sign() != 0) {
                        firstNegative = i;
                        secondNegative = j;
                        return true;
                    }
                }
            }
            return false;
        }

        private boolean makeSquare(int k) {
            if (squareCount >= INDICES || matrix.at(k, k).sign() == 0) {
                return false;
            }
            Square square = squares[squareCount];
            square.start(k, matrix.at(k, k));
            squareCount++;
            left[k] = false;
            for (int j = 0; j <= n; j++) {
                if (left[j] && !square.row[j].quotient(matrix.at(k, j), matrix.at(k, k))) {
                    return false;
                }
            }
            return true;
        }

        /** Takes the latest square, whose pivot is k, away from what is LEFT. */
        private boolean lessen(int k) {
            Square square = squares[squareCount - 1];
            for (int first = 0; first <= n; first++) {
                int i = inOrder(first, n);
                for (int second = first; second <= n; second++) {
                    int j = inOrder(second, n);
                    if (!left[i] || !left[j]) {
                        continue;
                    }
                    boolean fits = product.product(matrix.at(i, k), square.row[j])
                            && matrix.at(i, j).difference(matrix.at(i, j), product);
                    if (!fits) {
                        return false;
                    }
                    matrix.at(j, i).copy(matrix.at(i, j));
                }
            }
            return true;
        }

        private void clearWitness() {
            for (int k = 0; k < INDICES; k++) {
                witness[k].put(0, 1);
            }
        }

        /**
         * The pivots' numbers, the last pivot first. A line has 0 at the pivots ahead of its own,
         * whose numbers are still 0 here, so they may go into the sum.
         */
        private boolean goBack() {
            for (int s = squareCount - 1; s >= 0; s--) {
                Square square = squares[s];
                if (!sumOfOthers(square)) {
                    return false;
                }
                witness[square.pivotIndex].put(-total.up, total.down);
            }
            return true;
        }

        private boolean sumOfOthers(Square square) {
            total.put(0, 1);
            for (int turn = 0; turn <= n; turn++) {
                int j = inOrder(turn, n);
                if (j == square.pivotIndex) {
                    continue;
                }
                if (!product.product(square.row[j], witness[j]) || !total.sum(total, product)) {
                    return false;
                }
            }
            return true;
        }
    }

    /** THE POINT: X 1 .. X n, with X 0, which is 1, ahead of them. */
    private static final class Point {
        private final Fraction[] x = rowOfFractions(INDICES);
        private final Fraction step = new Fraction();
        private final Fraction formThere = new Fraction();
        private boolean there = false;

        Point() {
            x[0].put(1, 1);
        }

        /** False if something is TOO LONG, or no multiple of the witness is found. */
        boolean byWitness(Fraction[] v, Form form, int n) {
            if (v[0].sign() != 0) {
                return byQuotients(v, n);
            }
            for (int power = 0; power <= LAST_DOUBLING; power++) {
                if (!takeMultiple(v, 1L << power, n) || !workOut(form, n)) {
                    return false;
                }
                if (formThere.sign() < 0) {
                    return true;
                }
            }
            return false;
        }

        boolean byQuotients(Fraction[] v, int n) {
            for (int k = 1; k <= n; k++) {
                if (!x[k].quotient(v[k], v[0])) {
                    return false;
                }
            }
            return true;
        }

        void takeWhole(long[] whole, int n) {
            for (int k = 1; k <= n; k++) {
                x[k].put(whole[k], 1);
            }
        }

        private boolean takeMultiple(Fraction[] v, long times, int n) {
            for (int k = 1; k <= n; k++) {
                if (!step.put(times, 1) || !x[k].product(step, v[k])) {
                    return false;
                }
            }
            return true;
        }

        /** The form at this point goes into formThere; false if something is TOO LONG. */
        private boolean workOut(Form form, int n) {
            formThere.put(0, 1);
            for (int i = 0; i <= n; i++) {
                for (int j = i; j <= n; j++) {
                    boolean fits = step.put(form.number(i, j), 1)
                            && step.product(step, x[i])
                            && step.product(step, x[j])
                            && formThere.sum(formThere, step);
                    if (!fits) {
                        return false;
                    }
                }
            }
            return true;
        }
    }
}
