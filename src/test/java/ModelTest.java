import java.math.BigInteger;
import java.util.ArrayList;
import java.util.Arrays;
import java.util.List;
import java.util.Random;
import java.util.TreeMap;

/** Runs of chance calls (always the same ones), each answer held against a model in BigIntegers. */
public final class ModelTest {
    private static final int RUNS = 3000;
    private static final int CALLS = 512;

    /** What is TOO LONG. */
    private static final class TooLong extends RuntimeException {
        private static final long serialVersionUID = 1;
    }

    private record Number(BigInteger up, BigInteger down) {
        static final BigInteger END = BigInteger.ONE.shiftLeft(63);
        static final Number ZERO = of(0, 1);
        static final Number ONE = of(1, 1);

        static Number of(long up, long down) {
            return lowest(BigInteger.valueOf(up), BigInteger.valueOf(down));
        }

        static Number lowest(BigInteger up, BigInteger down) {
            BigInteger g = up.gcd(down);
            BigInteger sign = BigInteger.valueOf(down.signum());
            return new Number(up.divide(g).multiply(sign), down.divide(g).multiply(sign));
        }

        static BigInteger fit(BigInteger x) {
            if (x.abs().compareTo(END) >= 0) {
                throw new TooLong();
            }
            return x;
        }

        private static BigInteger mul(BigInteger x, BigInteger y) {
            return fit(x.multiply(y));
        }

        Number plus(Number o) {
            return lowest(fit(mul(up, o.down).add(mul(o.up, down))), mul(down, o.down));
        }

        Number minus(Number o) {
            return lowest(fit(mul(up, o.down).subtract(mul(o.up, down))), mul(down, o.down));
        }

        Number times(Number o) {
            return lowest(mul(up, o.up), mul(down, o.down));
        }

        Number by(Number o) {
            return lowest(mul(up, o.down), mul(down, o.up));
        }

        int sign() {
            return up.signum();
        }

        long part(int which) {
            return (which == 0 ? up : down).longValueExact();
        }
    }

    /** A SQUARE: its line holds a number for the pivot and for those that were LEFT with it, else null. */
    private static final class Piece {
        int pivot;
        Number weight;
        Number[] line;
    }

    /** What an elimination came to. */
    private static final class Outcome {
        final List<Piece> pieces = new ArrayList<>();
        final List<Integer> left = new ArrayList<>();
        Number[][] m;
        boolean negative;
        int first = -1;
        int second = -1;
    }

    /** The document once more, as its words go. */
    private static final class Model {
        int n = 2;
        List<int[][]> forms = new ArrayList<>();
        int proofs = 0;
        int[] latest;
        Outcome squares;
        Number[][] proved;
        Number[] place;

        boolean noForm(int f) {
            return f < 0 || f >= forms.size();
        }

        int variables(int k) {
            if (k < 1 || k > 4) {
                return -1;
            }
            int before = forms.size();
            n = k;
            forms.clear();
            proofs = 0;
            latest = null;
            squares = null;
            place = null;
            return before;
        }

        int form() {
            if (forms.size() == 12) {
                return -3;
            }
            forms.add(new int[5][5]);
            return forms.size() - 1;
        }

        int term(int f, int i, int j, int v) {
            if (noForm(f) || i < 0 || i > n || j < 0 || j > n || Math.abs((long) v) > 1000000) {
                return -2000000;
            }
            int before = forms.get(f)[i][j];
            forms.get(f)[i][j] = v;
            forms.get(f)[j][i] = v;
            return before;
        }

        long value(int f, int... x) {
            if (noForm(f)) {
                return -1;
            }
            for (int k = 0; k < n; k++) {
                if (Math.abs((long) x[k]) > 1000) {
                    return -1;
                }
            }
            Number[] at = new Number[n + 1];
            at[0] = Number.ONE;
            for (int k = 1; k <= n; k++) {
                at[k] = Number.of(x[k - 1], 1);
            }
            return worked(forms.get(f), at).part(0);
        }

        Number worked(int[][] v, Number[] x) {
            Number sum = Number.ZERO;
            for (int i = 0; i <= n; i++) {
                for (int j = i; j <= n; j++) {
                    sum = sum.plus(Number.of(v[i][j], 1).times(x[i]).times(x[j]));
                }
            }
            return sum;
        }

        List<Integer> order() {
            List<Integer> all = new ArrayList<>();
            for (int k = 1; k <= n; k++) {
                all.add(k);
            }
            all.add(0);
            return all;
        }

        Number[][] matrix(int[][] v) {
            Number[][] m = new Number[n + 1][n + 1];
            for (int i = 0; i <= n; i++) {
                for (int j = 0; j <= n; j++) {
                    m[i][j] = i == j ? Number.of(v[i][i], 1) : Number.of(v[i][j], 2);
                }
            }
            return m;
        }

        /** Takes the pivot k out of left and of m. */
        Piece takeOut(Number[][] m, List<Integer> left, int k) {
            Piece piece = new Piece();
            piece.pivot = k;
            piece.weight = m[k][k];
            piece.line = new Number[n + 1];
            piece.line[k] = Number.ONE;
            left.remove(Integer.valueOf(k));
            for (int j : left) {
                piece.line[j] = m[k][j].by(m[k][k]);
            }
            for (int a = 0; a < left.size(); a++) {
                for (int b = a; b < left.size(); b++) {
                    int i = left.get(a);
                    int j = left.get(b);
                    m[i][j] = m[i][j].minus(m[i][k].times(piece.line[j]));
                    m[j][i] = m[i][j];
                }
            }
            return piece;
        }

        int plain(int f) {
            if (noForm(f)) {
                return -1;
            }
            Number[][] m = matrix(forms.get(f));
            List<Integer> left = order();
            int above = 0;
            try {
                for (int turn = 0; turn <= n; turn++) {
                    int k = left.get(0);
                    if (m[k][k].sign() == 0) {
                        return -10 - turn;
                    }
                    above += m[k][k].sign() > 0 ? 1 : 0;
                    takeOut(m, left, k);
                }
            } catch (TooLong e) {
                return -30;
            }
            return above;
        }

        Outcome eliminate(Number[][] from) {
            Outcome out = new Outcome();
            out.m = new Number[n + 1][];
            for (int i = 0; i <= n; i++) {
                out.m[i] = from[i].clone();
            }
            out.left.addAll(order());
            while (true) {
                int pivot = -1;
                for (int k : out.left) {
                    if (out.m[k][k].sign() < 0) {
                        out.negative = true;
                        out.first = k;
                        return out;
                    }
                    if (pivot < 0 && out.m[k][k].sign() > 0) {
                        pivot = k;
                    }
                }
                if (pivot < 0) {
                    findPair(out);
                    return out;
                }
                out.pieces.add(takeOut(out.m, out.left, pivot));
            }
        }

        void findPair(Outcome out) {
            for (int i : out.left) {
                for (int j : out.left) {
                    boolean ahead = out.left.indexOf(i) < out.left.indexOf(j);
                    if (ahead && !out.negative && out.m[i][j].sign() != 0) {
                        out.negative = true;
                        out.first = i;
                        out.second = j;
                    }
                }
            }
        }

        Number[] back(Outcome out, Number[] v) {
            for (int s = out.pieces.size() - 1; s >= 0; s--) {
                Piece piece = out.pieces.get(s);
                Number sum = Number.ZERO;
                for (int j : order()) {
                    if (j != piece.pivot && piece.line[j] != null) {
                        sum = sum.plus(piece.line[j].times(v[j]));
                    }
                }
                v[piece.pivot] = Number.ZERO.minus(sum);
            }
            return v;
        }

        Number[] zeros() {
            Number[] v = new Number[n + 1];
            Arrays.fill(v, Number.ZERO);
            return v;
        }

        /** THE POINT, or null if there is no t. */
        Number[] pointOf(Outcome out, int[][] f) {
            Number[] v = zeros();
            v[out.first] = Number.ONE;
            if (out.second >= 0) {
                v[out.second] = Number.of(out.m[out.first][out.second].sign() > 0 ? -1 : 1, 1);
            }
            back(out, v);
            if (v[0].sign() != 0) {
                return quotients(v);
            }
            for (int power = 0; power <= 40; power++) {
                Number[] x = new Number[n + 1];
                x[0] = Number.ONE;
                for (int k = 1; k <= n; k++) {
                    x[k] = Number.of(1L << power, 1).times(v[k]);
                }
                if (worked(f, x).sign() < 0) {
                    seen(power == 0 ? "point at once" : "point farther out");
                    return x;
                }
            }
            return null;
        }

        Number[] quotients(Number[] v) {
            Number[] x = new Number[n + 1];
            x[0] = Number.ONE;
            for (int k = 1; k <= n; k++) {
                x[k] = v[k].by(v[0]);
            }
            return x;
        }

        int settle(int answer, int goal, int condition, long[] rest) {
            proofs++;
            squares = answer == 1 ? squares : null;
            place = answer == 0 ? place : null;
            int count = answer == 1 ? squares.pieces.size() : 0;
            latest = new int[] {answer, count, goal, condition, (int) rest[0], (int) rest[1], (int) rest[2]};
            return answer;
        }

        int prove(int f) {
            if (noForm(f)) {
                return -1;
            }
            long[] rest = {0, 1, 0};
            proved = matrix(forms.get(f));
            try {
                squares = eliminate(proved);
                if (!squares.negative) {
                    return settle(1, f, -1, rest);
                }
                seen(squares.second >= 0 ? "negative by two" : "negative by one");
                place = pointOf(squares, forms.get(f));
                return settle(place == null ? 2 : 0, f, -1, rest);
            } catch (TooLong e) {
                return settle(2, f, -1, rest);
            }
        }

        int under(int goal, int condition, int finer) {
            if (noForm(goal) || noForm(condition) || finer < 1 || finer > 20) {
                return -1;
            }
            int tried = 0;
            for (int s = 1; s <= finer; s++) {
                for (int q = 1; q <= s; q++) {
                    if (!BigInteger.valueOf(s - q).gcd(BigInteger.valueOf(q)).equals(BigInteger.ONE)) {
                        continue;
                    }
                    tried++;
                    if (done(forms.get(goal), forms.get(condition), Number.of(s - q, q))) {
                        seen(s == q ? "multiplier 0" : "multiplier above 0");
                        return settle(1, goal, condition, new long[] {s - q, q, tried});
                    }
                }
            }
            place = new Number[n + 1];
            place[0] = Number.ONE;
            boolean found = search(forms.get(goal), forms.get(condition), 1);
            return settle(found ? 0 : 2, goal, condition, new long[] {0, 1, tried});
        }

        boolean done(int[][] goal, int[][] condition, Number multiple) {
            try {
                proved = matrix(goal);
                Number[][] other = matrix(condition);
                for (int i = 0; i <= n; i++) {
                    for (int j = 0; j <= n; j++) {
                        proved[i][j] = proved[i][j].minus(multiple.times(other[i][j]));
                    }
                }
                squares = eliminate(proved);
                return !squares.negative;
            } catch (TooLong e) {
                seen("multiplier passed over");
                return false;
            }
        }

        boolean search(int[][] goal, int[][] condition, int k) {
            if (k > n) {
                return worked(condition, place).sign() >= 0 && worked(goal, place).sign() < 0;
            }
            for (int x = -3; x <= 3; x++) {
                place[k] = Number.of(x, 1);
                if (search(goal, condition, k + 1)) {
                    return true;
                }
            }
            return false;
        }

        int told(int what) {
            if (what < 0 || what > 6) {
                return -1;
            }
            return latest == null ? -2 : latest[what];
        }

        boolean noSquare(int i) {
            return squares == null || i < 0 || i >= squares.pieces.size();
        }

        long weight(int i, int part) {
            return noSquare(i) || part >>> 1 != 0 ? 0 : squares.pieces.get(i).weight.part(part);
        }

        long line(int i, int k, int part) {
            if (noSquare(i) || k < 0 || k > n || part >>> 1 != 0) {
                return 0;
            }
            Number at = squares.pieces.get(i).line[k];
            return (at == null ? Number.ZERO : at).part(part);
        }

        long point(int k, int part) {
            return place == null || k < 1 || k > n || part >>> 1 != 0 ? 0 : place[k].part(part);
        }

        long near(int i) {
            if (noSquare(i)) {
                return 0;
            }
            Number w = squares.pieces.get(i).weight;
            return Double.doubleToLongBits((double) w.part(0) / (double) w.part(1));
        }

        int plant(int i, long up, long down) {
            if (noSquare(i) || down == 0) {
                return -1;
            }
            if (up == Long.MIN_VALUE || down == Long.MIN_VALUE) {
                return -30;
            }
            squares.pieces.get(i).weight = Number.of(up, down);
            return 0;
        }

        int check() {
            if (squares == null) {
                return -2;
            }
            boolean same = true;
            try {
                for (int i = 0; i <= n; i++) {
                    for (int j = 0; j <= n; j++) {
                        same &= expanded(i, j).equals(proved[i][j]);
                    }
                }
            } catch (TooLong e) {
                return 2;
            }
            return same ? 1 : 0;
        }

        Number expanded(int i, int j) {
            Number sum = Number.ZERO;
            for (Piece p : squares.pieces) {
                Number at = p.line[i] == null ? Number.ZERO : p.line[i];
                Number other = p.line[j] == null ? Number.ZERO : p.line[j];
                sum = sum.plus(p.weight.times(at).times(other));
            }
            return sum;
        }

        int equal() {
            if (squares == null) {
                return -2;
            }
            place = null;
            if (!squares.left.contains(0)) {
                return 0;
            }
            try {
                Number[] v = zeros();
                v[0] = Number.ONE;
                place = quotients(back(squares, v));
                return 1;
            } catch (TooLong e) {
                return 2;
            }
        }

        int count(int what) {
            return what == 0 ? n : what == 1 ? forms.size() : what == 2 ? proofs : -1;
        }
    }

    private static final TreeMap<String, Integer> SEEN = new TreeMap<>();
    private static int wrong = 0;

    private static void seen(String what) {
        SEEN.merge(what, 1, Integer::sum);
    }

    private final Random chance;
    private final SquareSums x = new SquareSums();
    private final Model m = new Model();
    private final List<String> calls = new ArrayList<>();

    private ModelTest(long seed) {
        chance = new Random(seed);
    }

    private void due(String call, long got, long want) {
        calls.add(call + " = " + got);
        if (got != want) {
            wrong++;
            if (wrong <= 3) {
                System.out.println(calls);
                System.out.println(call + " answered " + got + ", the model " + want);
            }
        }
    }

    private int from(int low, int high) {
        return low + chance.nextInt(high - low + 1);
    }

    private void term(int f, int i, int j, int v) {
        due("term(" + f + ", " + i + ", " + j + ", " + v + ")", x.term(f, i, j, v), m.term(f, i, j, v));
    }

    private void variables(int n) {
        due("variables(" + n + ")", x.variables(n), m.variables(n));
    }

    private void formCall() {
        due("form()", x.form(), m.form());
    }

    private void put(int f, int[][] v) {
        for (int i = 0; i <= m.n; i++) {
            for (int j = i; j <= m.n; j++) {
                if (chance.nextBoolean()) {
                    term(f, i, j, v[i][j]);
                } else {
                    term(f, j, i, v[i][j]);
                }
            }
        }
    }

    private int[][] chanceNumbers(int size, int outOfTen) {
        int[][] v = new int[5][5];
        for (int i = 0; i <= m.n; i++) {
            for (int j = i; j <= m.n; j++) {
                v[i][j] = from(1, 10) <= outOfTen ? from(-size, size) : 0;
            }
        }
        return v;
    }

    /** The numbers of a sum of squares of whole lines. */
    private int[][] squaresOf(int lines, int size) {
        int[][] v = new int[5][5];
        for (int s = 0; s < lines; s++) {
            int[] a = new int[5];
            for (int i = 0; i <= m.n; i++) {
                a[i] = chance.nextInt(4) == 0 ? 0 : from(-size, size);
            }
            for (int i = 0; i <= m.n; i++) {
                for (int j = i; j <= m.n; j++) {
                    v[i][j] += i == j ? a[i] * a[i] : 2 * a[i] * a[j];
                }
            }
        }
        return v;
    }

    private int[][] someNumbers() {
        switch (from(0, 9)) {
            case 0:
                return chanceNumbers(3, 4);
            case 1:
                return chanceNumbers(1000000, from(3, 10));
            case 2:
                return chanceNumbers(100, 8);
            case 3:
                return squaresOf(from(1, 3), 400);
            case 4:
                return heavy(chanceNumbers(1000, 9), 4000);
            case 5:
                return heavy(chanceNumbers(60000, 9), from(20000, 1000000));
            case 6:
                return heavy(chanceNumbers(7, 9), 12);
            case 7:
                int[][] almost = squaresOf(from(1, 4), 20);
                almost[0][0] += from(-2, 2);
                return almost;
            default:
                return squaresOf(from(1, 4), from(1, 30));
        }
    }

    private int[][] heavy(int[][] v, int diagonal) {
        for (int i = 0; i <= m.n; i++) {
            v[i][i] = from(diagonal / 2, diagonal);
        }
        return v;
    }

    /** A goal that is squares and a multiple of form 0, which a multiplier may find. */
    private int[][] goalAbove(int[][] condition) {
        int p = from(0, 4);
        int q = from(1, 4);
        int[][] v = squaresOf(from(0, 3), 5);
        for (int i = 0; i <= m.n; i++) {
            for (int j = i; j <= m.n; j++) {
                v[i][j] += p * condition[i][j] / q;
            }
        }
        return v;
    }

    private void readAll() {
        for (int what = -1; what <= 7; what++) {
            due("told(" + what + ")", x.told(what), m.told(what));
        }
        for (int part = 0; part < 2; part++) {
            for (int i = 0; i <= m.n + 1; i++) {
                due("weight(" + i + ", " + part + ")", x.weight(i, part), m.weight(i, part));
                due("point(" + i + ", " + part + ")", x.point(i, part), m.point(i, part));
                for (int k = 0; k <= m.n; k++) {
                    due("line(" + i + ", " + k + ", " + part + ")", x.line(i, k, part), m.line(i, k, part));
                }
            }
        }
        due("near(0)", x.near(0), m.near(0));
    }

    private void testSquares() {
        int check = m.check();
        seen("check " + check);
        due("check()", x.check(), check);
        int equal = m.equal();
        seen("equal " + equal);
        due("equal()", x.equal(), equal);
        for (int k = 1; k <= m.n; k++) {
            due("point(" + k + ", 0)", x.point(k, 0), m.point(k, 0));
            due("point(" + k + ", 1)", x.point(k, 1), m.point(k, 1));
        }
        plantOne();
        check = m.check();
        seen("planted, check " + check);
        due("check()", x.check(), check);
    }

    private void plantOne() {
        int i = from(-1, 5);
        long up = switch (from(0, 4)) {
            case 0 -> chance.nextLong();
            case 1 -> from(-9, 9);
            case 2 -> Long.MIN_VALUE;
            default -> 3 * m.weight(i, 0);
        };
        long down = switch (from(0, 4)) {
            case 0 -> chance.nextLong() >> from(0, 60);
            case 1 -> from(-9, 9);
            default -> 3 * m.weight(i, 1);
        };
        int answer = m.plant(i, up, down);
        seen("plant " + answer);
        due("plant(" + i + ", " + up + ", " + down + ")", x.plant(i, up, down), answer);
        due("weight(" + i + ", 0)", x.weight(i, 0), m.weight(i, 0));
        due("weight(" + i + ", 1)", x.weight(i, 1), m.weight(i, 1));
        due("near(" + i + ")", x.near(i), m.near(i));
    }

    private void proofOf(int f) {
        int plain = m.plain(f);
        seen(plain < 0 ? "plain " + plain : "plain of n " + m.n + ": " + plain);
        due("plain(" + f + ")", x.plain(f), plain);
        int answer = m.prove(f);
        seen("prove " + answer);
        due("prove(" + f + ")", x.prove(f), answer);
        readAll();
        testSquares();
    }

    private void underOf(int goal, int condition, int finer) {
        int answer = m.under(goal, condition, finer);
        seen("under " + answer);
        due("under(" + goal + ", " + condition + ", " + finer + ")", x.under(goal, condition, finer), answer);
        readAll();
        testSquares();
    }

    private void oddCall() {
        switch (from(0, 6)) {
            case 0 -> term(from(-1, 12), from(-1, 5), from(-1, 5), from(-1000010, 1000010));
            case 1 -> {
                int f = from(-1, 3);
                int a = from(-1005, 1005);
                int b = from(-1005, 1005);
                int c = from(-1005, 1005);
                int d = from(-9999, 9999);
                due("value", x.value(f, a, b, c, d), m.value(f, a, b, c, d));
            }
            case 2 -> due("count", x.count(calls.size() % 5 - 1), m.count(calls.size() % 5 - 1));
            case 3 -> proofOf(from(-1, 12));
            case 4 -> underOf(from(-1, 12), from(-1, 12), from(-1, 22));
            case 5 -> {
                int i = from(-1, 5);
                int k = from(-1, 5);
                int part = from(-1, 2);
                due("line", x.line(i, k, part), m.line(i, k, part));
                due("weight", x.weight(i, part), m.weight(i, part));
                due("point", x.point(k, part), m.point(k, part));
            }
            default -> plantOne();
        }
    }

    private void run() {
        while (calls.size() < CALLS - 200) {
            variables(from(0, 9) == 0 ? from(-1, 6) : from(1, 4));
            int forms = from(1, 3);
            for (int f = 0; f < forms; f++) {
                formCall();
            }
            int[][] first = someNumbers();
            put(0, first);
            proofOf(0);
            if (forms > 1) {
                put(1, from(0, 2) == 0 ? someNumbers() : goalAbove(first));
                underOf(1, 0, from(1, 20));
            }
            oddCall();
            if (from(0, 5) == 0) {
                term(0, from(0, m.n), from(0, m.n), from(-20, 20));
                testSquares();
            }
        }
    }

    /** Answers that chance alone finds too seldom stand here, so that the model is known to have met them. */
    private static final String[] WANTED = {"prove 0", "prove 1", "prove 2", "under -1", "under 0", "under 1",
        "under 2", "check -2", "check 1", "check 2", "planted, check 0", "planted, check 1", "planted, check 2",
        "equal -2", "equal 0", "equal 1", "equal 2", "plant -30", "plant -1", "plant 0", "plain -1", "plain -10",
        "plain -11", "plain -12", "plain -13", "plain -14", "plain -30", "plain of n 4: 0", "plain of n 4: 5",
        "negative by one", "negative by two", "point at once", "point farther out", "multiplier 0",
        "multiplier above 0", "multiplier passed over"};

    public static void main(String[] args) {
        int runs = args.length > 1 ? Integer.parseInt(args[1]) : RUNS;
        for (int seed = 1; seed <= runs; seed++) {
            new ModelTest(seed).run();
        }
        System.out.println(runs + " runs met " + SEEN);
        for (String what : WANTED) {
            if (!SEEN.containsKey(what)) {
                wrong++;
                System.out.println("no run met: " + what);
            }
        }
        System.out.println(wrong + " answers not as due");
        if (wrong != 0) {
            System.exit(1);
        }
    }
}
