/** Each promise of the document by hand: ordinary inputs, the edges that it names, wrong inputs. */
public final class PromisesTest {
    private static final long LEAST = Long.MIN_VALUE;
    private static int wrong = 0;
    private static int asked = 0;

    private static void due(int promise, String what, long got, long want) {
        asked++;
        if (got != want) {
            wrong++;
            System.out.println("promise " + promise + ": " + what + " answered " + got + ", due is " + want);
        }
    }

    /** A form with rows of i, j, v. */
    private static int make(SquareSums x, int... rows) {
        int form = x.form();
        for (int k = 0; k + 2 < rows.length; k += 3) {
            x.term(form, rows[k], rows[k + 1], rows[k + 2]);
        }
        return form;
    }

    private static SquareSums of(int n, int... rows) {
        SquareSums x = new SquareSums();
        x.variables(n);
        make(x, rows);
        return x;
    }

    private static void dueSquare(int promise, SquareSums x, int i, long up, long down, long... line) {
        due(promise, "weight(" + i + ", 0)", x.weight(i, 0), up);
        due(promise, "weight(" + i + ", 1)", x.weight(i, 1), down);
        for (int k = 0; 2 * k + 1 < line.length; k++) {
            due(promise, "line(" + i + ", " + k + ", 0)", x.line(i, k, 0), line[2 * k]);
            due(promise, "line(" + i + ", " + k + ", 1)", x.line(i, k, 1), line[2 * k + 1]);
        }
    }

    private static void duePoint(int promise, SquareSums x, long... parts) {
        for (int k = 0; 2 * k + 1 < parts.length; k++) {
            due(promise, "point(" + (k + 1) + ", 0)", x.point(k + 1, 0), parts[2 * k]);
            due(promise, "point(" + (k + 1) + ", 1)", x.point(k + 1, 1), parts[2 * k + 1]);
        }
    }

    private static void dueTold(int promise, SquareSums x, long... row) {
        for (int k = 0; k < row.length; k++) {
            due(promise, "told(" + k + ")", x.told(k), row[k]);
        }
    }

    private static void newObject() {
        SquareSums x = new SquareSums();
        due(1, "count(0)", x.count(0), 2);
        due(1, "count(1)", x.count(1), 0);
        due(1, "count(2)", x.count(2), 0);
        due(1, "told(0)", x.told(0), -2);
        due(1, "prove(0)", x.prove(0), -1);
        due(1, "weight(0, 1)", x.weight(0, 1), 0);
        due(1, "point(1, 1)", x.point(1, 1), 0);
        due(1, "check()", x.check(), -2);
        due(1, "equal()", x.equal(), -2);
        due(1, "near(0)", x.near(0), 0);
        due(1, "plant(0, 1, 1)", x.plant(0, 1, 1), -1);
    }

    private static void variables() {
        SquareSums x = new SquareSums();
        due(2, "variables(1)", x.variables(1), 0);
        due(2, "count(0)", x.count(0), 1);
        make(x, 1, 1, 1);
        make(x, 1, 1, -1);
        due(2, "prove(1)", x.prove(1), 0);
        due(2, "variables(0)", x.variables(0), -1);
        due(2, "variables(5)", x.variables(5), -1);
        due(2, "variables(-3)", x.variables(-3), -1);
        due(2, "count(0) after BAD", x.count(0), 1);
        due(2, "count(1) after BAD", x.count(1), 2);
        due(2, "told(0) after BAD", x.told(0), 0);
        due(2, "point(1, 1) after BAD", x.point(1, 1), 1);
        due(2, "variables(4)", x.variables(4), 2);
        due(2, "count(0)", x.count(0), 4);
        due(2, "count(1)", x.count(1), 0);
        due(2, "count(2)", x.count(2), 0);
        due(2, "told(0)", x.told(0), -2);
        due(2, "point(1, 1)", x.point(1, 1), 0);
        due(2, "prove(0)", x.prove(0), -1);
        make(x, 1, 1, 1);
        due(2, "prove(0)", x.prove(0), 1);
        due(2, "equal()", x.equal(), 1);
        due(2, "variables(4)", x.variables(4), 1);
        due(2, "weight(0, 1)", x.weight(0, 1), 0);
        due(2, "check()", x.check(), -2);
        due(2, "equal()", x.equal(), -2);
        due(2, "point(1, 1)", x.point(1, 1), 0);
        due(2, "form()", x.form(), 0);
        due(2, "term(0, 1, 1, 0)", x.term(0, 1, 1, 0), 0);
    }

    private static void form() {
        SquareSums x = new SquareSums();
        for (int f = 0; f < 12; f++) {
            due(3, "form()", x.form(), f);
            due(3, "term(f, 1, 2, 5)", x.term(f, 1, 2, 5), 0);
        }
        due(3, "form() the 13th", x.form(), -3);
        due(3, "count(1)", x.count(1), 12);
        due(3, "term(11, 1, 2, 5)", x.term(11, 1, 2, 5), 5);
        due(3, "variables(2)", x.variables(2), 12);
        due(3, "form()", x.form(), 0);
        due(3, "term(0, 1, 2, 0) of a new form", x.term(0, 1, 2, 0), 0);
    }

    private static void term() {
        SquareSums x = new SquareSums();
        x.form();
        due(4, "term(0, 1, 2, 1000000)", x.term(0, 1, 2, 1000000), 0);
        due(4, "term(0, 2, 1, -1000000)", x.term(0, 2, 1, -1000000), 1000000);
        due(4, "term(0, 1, 2, 7)", x.term(0, 1, 2, 7), -1000000);
        due(4, "term(0, 1, 2, 7)", x.term(0, 1, 2, 7), 7);
        due(4, "term(0, 0, 0, 3)", x.term(0, 0, 0, 3), 0);
        due(4, "term(0, 2, 0, 4)", x.term(0, 2, 0, 4), 0);
        due(4, "term(0, 0, 2, 4)", x.term(0, 0, 2, 4), 4);
        int[][] bad = {{0, 1, 2, 1000001}, {0, 1, 2, -1000001}, {0, 1, 2, Integer.MIN_VALUE}, {0, 3, 1, 1},
            {0, 1, 3, 1}, {0, -1, 1, 1}, {0, 1, -1, 1}, {1, 1, 1, 1}, {-1, 1, 1, 1}, {12, 1, 1, 1},
            {0, Integer.MAX_VALUE, 1, 1}, {Integer.MIN_VALUE, 0, 0, 0}};
        for (int[] b : bad) {
            due(4, "a bad term", x.term(b[0], b[1], b[2], b[3]), -2000000);
        }
        due(4, "term(0, 1, 2, 0) after BAD", x.term(0, 1, 2, 0), 7);
    }

    private static void value() {
        SquareSums x = of(2, 1, 1, 2, 1, 2, -3, 0, 2, 5, 0, 0, 7);
        due(5, "value(0, 2, -1, 0, 0)", x.value(0, 2, -1, 0, 0), 16);
        due(5, "value of what are no VARIABLES", x.value(0, 2, -1, 5000, Integer.MIN_VALUE), 16);
        due(5, "value at 1000, -1000", x.value(0, 1000, -1000, 1001, 0), 2000000 + 3000000 - 5000 + 7);
        due(5, "value at 1001", x.value(0, 1001, 0, 0, 0), -1);
        due(5, "value at -1001", x.value(0, 0, -1001, 0, 0), -1);
        due(5, "value(1, ..)", x.value(1, 0, 0, 0, 0), -1);
        due(5, "value(-1, ..)", x.value(-1, 0, 0, 0, 0), -1);
        SquareSums y = of(4);
        for (int i = 0; i <= 4; i++) {
            for (int j = i; j <= 4; j++) {
                y.term(0, i, j, 1000000);
            }
        }
        due(5, "the largest value", y.value(0, 1000, 1000, 1000, 1000), 10L * 1000000 * 1000000 + 4L * 1000 * 1000000 + 1000000);
        due(5, "value at X 4 = 1001", y.value(0, 0, 0, 0, 1001), -1);
        due(5, "value at X 3 = -1001", y.value(0, 0, 0, -1001, 0), -1);
        SquareSums z = of(1, 1, 1, -1000000, 0, 1, -1000000, 0, 0, -1000000);
        due(5, "a value of one VARIABLE", z.value(0, 1000, 9999, 9999, 9999), -1000000000000L - 1000000000L - 1000000);
    }

    private static void plain() {
        due(6, "plain of all above", of(2, 1, 1, 1, 2, 2, 1, 0, 0, 1).plain(0), 3);
        due(6, "plain with one below", of(2, 1, 1, -1, 2, 2, 1, 0, 0, 1).plain(0), 2);
        due(6, "plain with all below", of(2, 1, 1, -1, 2, 2, -1, 0, 0, -1).plain(0), 0);
        due(6, "plain of 0", of(2).plain(0), -10);
        due(6, "plain, X 2 has none", of(2, 1, 1, 1).plain(0), -11);
        due(6, "plain, X 0 has none", of(2, 1, 1, 1, 2, 2, 1).plain(0), -12);
        due(6, "plain, X 2 goes to 0", of(2, 1, 1, 1, 1, 2, 2, 2, 2, 1, 0, 0, 1).plain(0), -11);
        due(6, "plain, X 0 goes to 0", of(2, 1, 1, 1, 2, 2, 1, 0, 1, 2, 0, 0, 1).plain(0), -12);
        due(6, "plain of 4, X 0 has none", of(4, 1, 1, 1, 2, 2, 1, 3, 3, 1, 4, 4, 1).plain(0), -14);
        due(6, "plain by signs changed", of(2, 1, 1, 1, 1, 2, 4, 2, 2, 1, 0, 0, 1).plain(0), 2);
        due(6, "plain of one variable", of(1, 1, 1, 2, 0, 1, 2, 0, 0, 1).plain(0), 2);
        SquareSums x = of(4, 1, 1, 999983, 1, 2, 999979, 2, 2, 999961, 1, 3, 999959, 3, 3, 999953,
            2, 3, 999931, 1, 4, 999917, 4, 4, 999907, 2, 4, 999883, 3, 4, 999863, 0, 0, 1);
        due(6, "plain that is TOO LONG", x.plain(0), -30);
        due(6, "plain(1)", x.plain(1), -1);
        due(6, "plain(-1)", x.plain(-1), -1);
        SquareSums y = of(2, 1, 1, 2, 2, 2, 3, 0, 0, 5);
        y.prove(0);
        y.plant(1, 7, 2);
        make(y, 1, 1, -8, 1, 2, 6, 2, 2, 11, 0, 0, 13);
        due(6, "plain(1) beside a proof", y.plain(1), 2);
        due(6, "told(2) after plain", y.told(2), 0);
        due(6, "count(2) after plain", y.count(2), 1);
        dueSquare(6, y, 0, 2, 1, 0, 1, 1, 1, 0, 1);
        dueSquare(6, y, 1, 7, 2, 0, 1, 0, 1, 1, 1);
    }

    private static void proveDone() {
        SquareSums x = of(2, 1, 1, 2, 1, 2, 3, 0, 1, -2, 2, 2, 5, 0, 0, 9);
        due(7, "prove(0)", x.prove(0), 1);
        dueTold(7, x, 1, 3, 0, -1, 0, 1, 0);
        dueSquare(7, x, 0, 2, 1, -1, 2, 1, 1, 3, 4);
        dueSquare(7, x, 1, 31, 8, 6, 31, 0, 1, 1, 1);
        dueSquare(7, x, 2, 259, 31, 1, 1, 0, 1, 0, 1);
        due(7, "check()", x.check(), 1);
        SquareSums y = of(3, 3, 3, 4, 0, 3, 4, 0, 0, 1);
        due(7, "prove with no X 1, X 2", y.prove(0), 1);
        due(7, "told(1)", y.told(1), 1);
        dueSquare(7, y, 0, 4, 1, 1, 2, 0, 1, 0, 1, 1, 1);
        due(7, "prove of 0", of(4).prove(0), 1);
        due(7, "prove(1)", x.prove(1), -1);
        due(7, "prove(-1)", x.prove(-1), -1);
        due(7, "count(2) after BAD", x.count(2), 1);
        due(7, "told(0) after BAD", x.told(0), 1);
    }

    private static void proveNegative() {
        SquareSums x = of(2, 0, 1, 1);
        due(7, "prove X 1", x.prove(0), 0);
        dueTold(7, x, 0, 0, 0, -1, 0, 1, 0);
        duePoint(7, x, -1, 1, 0, 1);
        SquareSums minus = of(2, 0, 1, -1);
        due(7, "prove - X 1", minus.prove(0), 0);
        duePoint(7, minus, 1, 1, 0, 1);
        SquareSums y = of(2, 1, 1, -1, 0, 0, 100);
        due(7, "prove 100 - X 1 X 1", y.prove(0), 0);
        duePoint(7, y, 16, 1, 0, 1);
        SquareSums edge = of(2, 1, 1, -1, 0, 0, 256);
        due(7, "prove 256 - X 1 X 1", edge.prove(0), 0);
        duePoint(7, edge, 32, 1, 0, 1);
        SquareSums z = of(2, 1, 2, 1);
        due(7, "prove X 1 X 2", z.prove(0), 0);
        duePoint(7, z, 1, 1, -1, 1);
        SquareSums w = of(2, 1, 1, 1, 1, 2, 4, 2, 2, 1);
        due(7, "prove with a PIVOT ahead", w.prove(0), 0);
        duePoint(7, w, -2, 1, 1, 1);
        SquareSums u = of(1, 1, 1, 1, 0, 1, -3, 0, 0, 2);
        due(7, "prove with X 0 below", u.prove(0), 0);
        duePoint(7, u, 3, 2);
        SquareSums first = of(3, 2, 2, -1, 3, 3, -1, 0, 0, -1, 1, 1, 1);
        due(7, "prove, X 2 is the first below", first.prove(0), 0);
        duePoint(7, first, 0, 1, 1, 1, 0, 1);
        SquareSums pairs = of(3, 2, 3, 1, 0, 1, 1);
        due(7, "prove, 1 0 is the first pair", pairs.prove(0), 0);
        duePoint(7, pairs, -1, 1, 0, 1, 0, 1);
        SquareSums third = of(1, 1, 1, 3, 0, 1, 2, 0, 0, -5);
        due(7, "prove with a third in THE POINT", third.prove(0), 0);
        duePoint(7, third, 0, 1);
        due(7, "weight(0, 1) by 0", third.weight(0, 1), 0);
        due(7, "check() by 0", third.check(), -2);
        due(7, "equal() by 0", third.equal(), -2);
    }

    private static void proveTooLong() {
        SquareSums x = of(4, 1, 1, 999983, 1, 2, 999979, 2, 2, 999961, 1, 3, 999959, 3, 3, 999953,
            2, 3, 999931, 1, 4, 999917, 4, 4, 999907, 2, 4, 999883, 3, 4, 999863, 0, 0, 1);
        due(7, "prove that is TOO LONG", x.prove(0), 2);
        dueTold(7, x, 2, 0, 0, -1, 0, 1, 0);
        due(7, "weight(0, 1) by 2", x.weight(0, 1), 0);
        due(7, "line(0, 1, 1) by 2", x.line(0, 1, 1), 0);
        due(7, "point(1, 1) by 2", x.point(1, 1), 0);
        due(7, "near(0) by 2", x.near(0), 0);
        due(7, "plant(0, 1, 1) by 2", x.plant(0, 1, 1), -1);
        due(7, "check() by 2", x.check(), -2);
        due(7, "equal() by 2", x.equal(), -2);
        due(7, "count(2)", x.count(2), 1);
    }

    private static void underDone() {
        SquareSums x = of(1, 1, 1, 1, 0, 0, -1);
        make(x, 0, 1, 1, 0, 0, -1);
        due(8, "under(0, 1, 2)", x.under(0, 1, 2), 2);
        dueTold(8, x, 2, 0, 0, 1, 0, 1, 2);
        due(8, "point(1, 1) by 2", x.point(1, 1), 0);
        due(8, "under(0, 1, 20)", x.under(0, 1, 20), 1);
        dueTold(8, x, 1, 1, 0, 1, 2, 1, 3);
        dueSquare(8, x, 0, 1, 1, -1, 1, 1, 1);
        due(8, "check()", x.check(), 1);
        due(8, "equal()", x.equal(), 1);
        duePoint(8, x, 1, 1);
        SquareSums y = of(2, 0, 1, 3);
        make(y, 0, 1, 2);
        due(8, "under by 3 / 2", y.under(0, 1, 5), 1);
        dueTold(8, y, 1, 0, 0, 1, 3, 2, 8);
        due(8, "check() of no SQUARES", y.check(), 1);
        due(8, "under by 2 / 3", y.under(1, 0, 5), 1);
        dueTold(8, y, 1, 0, 1, 0, 2, 3, 9);
        SquareSums z = of(2, 1, 1, 1);
        make(z, 1, 1, -1);
        due(8, "under by 0", z.under(0, 1, 1), 1);
        dueTold(8, z, 1, 1, 0, 1, 0, 1, 1);
        due(8, "under of itself", y.under(0, 0, 2), 1);
        dueTold(8, y, 1, 0, 0, 0, 1, 1, 2);
    }

    private static void underNot() {
        SquareSums x = of(2, 0, 1, 1, 0, 0, -1);
        make(x, 0, 1, 1);
        due(8, "under at X 1 = 0", x.under(0, 1, 20), 0);
        dueTold(8, x, 0, 0, 0, 1, 0, 1, 128);
        duePoint(8, x, 0, 1, -3, 1);
        SquareSums y = of(2, 0, 1, 1, 0, 2, 1, 0, 0, 4);
        make(y, 0, 0, 1);
        due(8, "under at -3, -3", y.under(0, 1, 1), 0);
        duePoint(8, y, -3, 1, -3, 1);
        SquareSums last = of(2, 0, 1, -1, 0, 2, -1, 0, 0, 5);
        make(last, 0, 0, 0);
        due(8, "under at 3, 3", last.under(0, 1, 3), 0);
        duePoint(8, last, 3, 1, 3, 1);
        SquareSums order = of(2, 1, 2, 1, 0, 0, 8);
        make(order, 0, 0, 1);
        due(8, "under, X 1 goes slowest", order.under(0, 1, 2), 0);
        duePoint(8, order, -3, 1, 3, 1);
        SquareSums far = of(1, 0, 1, -1, 0, 0, 3);
        make(far, 0, 0, 1);
        due(8, "under with a point too far out", far.under(0, 1, 20), 2);
        dueTold(8, far, 2, 0, 0, 1, 0, 1, 128);
        int[][] bad = {{2, 0, 1}, {0, 2, 1}, {-1, 0, 1}, {0, -1, 1}, {0, 1, 0}, {0, 1, 21}, {0, 1, -5}};
        for (int[] b : bad) {
            due(8, "a bad under", x.under(b[0], b[1], b[2]), -1);
        }
        due(8, "count(2) after BAD", x.count(2), 1);
        dueTold(8, x, 0, 0, 0, 1, 0, 1, 128);
        duePoint(8, x, 0, 1, -3, 1);
    }

    private static void told() {
        SquareSums x = of(2, 1, 1, 1);
        due(9, "told(0) with none", x.told(0), -2);
        due(9, "told(6) with none", x.told(6), -2);
        due(9, "told(7) with none", x.told(7), -1);
        due(9, "told(-1) with none", x.told(-1), -1);
        make(x, 2, 2, 1, 0, 0, 1);
        x.prove(1);
        dueTold(9, x, 1, 2, 1, -1, 0, 1, 0, -1);
        x.under(0, 1, 3);
        dueTold(9, x, 1, 1, 0, 1, 0, 1, 1, -1);
        due(9, "told(-1)", x.told(-1), -1);
        x.term(0, 1, 1, -1);
        dueTold(9, x, 1, 1, 0, 1, 0, 1, 1);
        x.variables(2);
        due(9, "told(0) after variables()", x.told(0), -2);
    }

    private static void weightAndLine() {
        SquareSums x = of(2, 1, 1, 2, 1, 2, 3, 0, 1, -2, 2, 2, 5, 0, 0, 9);
        due(10, "weight(0, 0) with none", x.weight(0, 0), 0);
        x.prove(0);
        due(10, "weight(1, 0)", x.weight(1, 0), 31);
        due(10, "weight(1, 1)", x.weight(1, 1), 8);
        due(10, "weight(3, 1)", x.weight(3, 1), 0);
        due(10, "weight(-1, 1)", x.weight(-1, 1), 0);
        due(10, "weight(0, 2)", x.weight(0, 2), 0);
        due(10, "weight(0, -1)", x.weight(0, -1), 0);
        due(11, "line(0, 2, 0)", x.line(0, 2, 0), 3);
        due(11, "line(0, 2, 1)", x.line(0, 2, 1), 4);
        due(11, "line(1, 1, 0) has none", x.line(1, 1, 0), 0);
        due(11, "line(1, 1, 1) has none", x.line(1, 1, 1), 1);
        due(11, "line(0, 3, 1)", x.line(0, 3, 1), 0);
        due(11, "line(0, -1, 1)", x.line(0, -1, 1), 0);
        due(11, "line(3, 0, 1)", x.line(3, 0, 1), 0);
        due(11, "line(-1, 0, 1)", x.line(-1, 0, 1), 0);
        due(11, "line(0, 0, 2)", x.line(0, 0, 2), 0);
        due(11, "line(0, 0, -1)", x.line(0, 0, -1), 0);
        make(x, 1, 1, 1);
        x.prove(1);
        due(10, "weight(1, 1) of one SQUARE", x.weight(1, 1), 0);
        due(11, "line(1, 0, 1) of one SQUARE", x.line(1, 0, 1), 0);
    }

    private static void point() {
        SquareSums x = of(2, 1, 1, 3, 0, 1, 4, 0, 0, 1);
        due(12, "point(1, 1) with none", x.point(1, 1), 0);
        due(12, "prove(0)", x.prove(0), 0);
        duePoint(12, x, -2, 3, 0, 1);
        due(12, "point(0, 1)", x.point(0, 1), 0);
        due(12, "point(3, 1)", x.point(3, 1), 0);
        due(12, "point(-1, 1)", x.point(-1, 1), 0);
        due(12, "point(1, 2)", x.point(1, 2), 0);
        due(12, "point(1, -1)", x.point(1, -1), 0);
        make(x, 1, 1, 1);
        x.prove(1);
        due(12, "point(1, 1) by 1", x.point(1, 1), 0);
    }

    private static void near() {
        SquareSums x = of(1, 1, 1, 1);
        due(13, "near(0) with none", x.near(0), 0);
        x.prove(0);
        due(13, "near(0) of 1", x.near(0), 0x3FF0000000000000L);
        due(13, "near(1)", x.near(1), 0);
        due(13, "near(-1)", x.near(-1), 0);
        long[] numbers = {1, 2, 3, 7, 10, 1023, 1L << 52, (1L << 53) + 1, (1L << 62) + 1, Long.MAX_VALUE,
            Long.MAX_VALUE - 512, 1000000007L, 999999999999999989L, 0};
        for (long up : numbers) {
            for (long down : numbers) {
                if (down == 0) {
                    continue;
                }
                x.plant(0, up, down);
                due(13, "near(0) of " + up + " / " + down, x.near(0), bits(x));
                x.plant(0, -up, down);
                due(13, "near(0) of -" + up + " / " + down, x.near(0), bits(x));
            }
        }
    }

    private static long bits(SquareSums x) {
        return Double.doubleToLongBits((double) x.weight(0, 0) / (double) x.weight(0, 1));
    }

    private static void plant() {
        SquareSums x = of(2, 1, 1, 1, 2, 2, 1);
        due(14, "plant with none", x.plant(0, 1, 1), -1);
        x.prove(0);
        due(14, "plant(1, -6, -4)", x.plant(1, -6, -4), 0);
        dueSquare(14, x, 1, 3, 2, 0, 1, 0, 1, 1, 1);
        due(14, "plant(1, 6, -4)", x.plant(1, 6, -4), 0);
        dueSquare(14, x, 1, -3, 2);
        due(14, "plant(1, 0, -4)", x.plant(1, 0, -4), 0);
        dueSquare(14, x, 1, 0, 1);
        due(14, "plant the greatest", x.plant(1, Long.MAX_VALUE, 1), 0);
        due(14, "plant the least but one", x.plant(1, -Long.MAX_VALUE, 1), 0);
        dueSquare(14, x, 1, -Long.MAX_VALUE, 1);
        due(14, "plant(2, 1, 1)", x.plant(2, 1, 1), -1);
        due(14, "plant(-1, 1, 1)", x.plant(-1, 1, 1), -1);
        due(14, "plant(1, 1, 0)", x.plant(1, 1, 0), -1);
        due(14, "plant the least, by 0", x.plant(1, LEAST, 0), -1);
        due(14, "plant the least, no such SQUARE", x.plant(2, LEAST, 1), -1);
        due(14, "plant the least", x.plant(1, LEAST, 1), -30);
        due(14, "plant by the least", x.plant(1, 1, LEAST), -30);
        dueSquare(14, x, 1, -Long.MAX_VALUE, 1);
        dueSquare(14, x, 0, 1, 1);
    }

    private static void check() {
        SquareSums x = of(2, 1, 1, 2, 1, 2, 3, 0, 1, -2, 2, 2, 5, 0, 0, 9);
        due(15, "check() with none", x.check(), -2);
        x.prove(0);
        due(15, "check()", x.check(), 1);
        x.plant(2, 258, 31);
        due(15, "check() of a spoilt one", x.check(), 0);
        x.plant(2, 518, 62);
        due(15, "check() of the right one again", x.check(), 1);
        x.plant(0, Long.MAX_VALUE, 1);
        due(15, "check() that is TOO LONG", x.check(), 2);
        x.plant(0, 2, 1);
        x.term(0, 1, 1, 77);
        due(15, "check() of the MATRIX as it was then", x.check(), 1);
        SquareSums y = of(2, 1, 1, 1, 2, 2, 4, 0, 0, 9, 1, 2, 4, 1, 0, 6, 2, 0, 12);
        y.prove(0);
        y.plant(0, 2000000000000000000L, 3);
        due(15, "check() with 2 0 alone TOO LONG", y.check(), 2);
        SquareSums z = of(2, 1, 1, -1);
        z.prove(0);
        due(15, "check() by 0", z.check(), -2);
    }

    private static void equal() {
        SquareSums x = of(2, 1, 1, 1, 0, 1, -4, 0, 0, 4, 2, 2, 9, 0, 2, 6);
        x.term(0, 0, 0, 5);
        due(16, "equal() with none", x.equal(), -2);
        due(16, "prove(0)", x.prove(0), 1);
        due(16, "equal()", x.equal(), 1);
        duePoint(16, x, 2, 1, -1, 3);
        x.plant(0, 5, 1);
        due(16, "equal() again", x.equal(), 1);
        dueTold(16, x, 1, 2, 0, -1, 0, 1, 0);
        due(16, "weight(0, 0) after equal()", x.weight(0, 0), 5);
        x.term(0, 0, 0, 6);
        x.prove(0);
        due(16, "point(1, 1) of a new proof", x.point(1, 1), 0);
        due(16, "equal() nowhere", x.equal(), 0);
        due(16, "point(1, 1) by 0", x.point(1, 1), 0);
        SquareSums y = of(2);
        y.prove(0);
        due(16, "equal() of 0", y.equal(), 1);
        duePoint(16, y, 0, 1, 0, 1);
        SquareSums w = of(3, 1, 1, 1, 1, 2, 2, 2, 2, 1, 3, 3, 1, 1, 0, 2, 2, 0, 2, 0, 0, 1);
        w.prove(0);
        due(16, "equal() with X 2 LEFT, too", w.equal(), 1);
        duePoint(16, w, -1, 1, 0, 1, 0, 1);
        SquareSums z = of(2, 1, 1, -1);
        z.prove(0);
        due(16, "equal() by 0", z.equal(), -2);
        due(16, "point(1, 0) after STATE", z.point(1, 0), 1);
    }

    private static void pivot() {
        SquareSums x = new SquareSums();
        due(17, "pivot(7, 2)", x.pivot(7, 2), 3);
        due(17, "pivot(-7, 2)", x.pivot(-7, 2), -3);
        due(17, "pivot(7, -2)", x.pivot(7, -2), -3);
        due(17, "pivot(0, 5)", x.pivot(0, 5), 0);
        due(17, "pivot(5, 0)", x.pivot(5, 0), -30);
        due(17, "pivot(0, 0)", x.pivot(0, 0), -30);
        due(17, "pivot(60, -2)", x.pivot(60, -2), -30);
        due(17, "pivot of the least", x.pivot(LEAST, -1), LEAST);
        due(17, "pivot by the least", x.pivot(Long.MAX_VALUE, LEAST), 0);
    }

    private static void count() {
        SquareSums x = of(3, 1, 1, 1);
        make(x, 1, 1, -1);
        due(18, "count(0)", x.count(0), 3);
        due(18, "count(1)", x.count(1), 2);
        x.prove(0);
        x.prove(1);
        x.under(0, 1, 1);
        x.under(1, 0, 1);
        x.check();
        x.plain(0);
        x.equal();
        due(18, "count(2)", x.count(2), 4);
        due(18, "count(3)", x.count(3), -1);
        due(18, "count(-1)", x.count(-1), -1);
        x.variables(3);
        due(18, "count(2) after variables()", x.count(2), 0);
    }

    public static void main(String[] args) {
        newObject();
        variables();
        form();
        term();
        value();
        plain();
        proveDone();
        proveNegative();
        proveTooLong();
        underDone();
        underNot();
        told();
        weightAndLine();
        point();
        near();
        plant();
        check();
        equal();
        pivot();
        count();
        System.out.println(asked + " answers, " + wrong + " not as due");
        if (wrong != 0) {
            System.exit(1);
        }
    }
}
