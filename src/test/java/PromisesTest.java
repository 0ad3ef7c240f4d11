/** Each promise of the document by hand: ordinary inputs, the edges that it names, wrong inputs. */
public final class PromisesTest extends Asking {
    private static void newObject() {
        sentence("promise 1, a new object");
        SquareSums x = new SquareSums();
        due("count(0)", x.count(0), 2);
        due("count(1)", x.count(1), 0);
        due("count(2)", x.count(2), 0);
        due("told(0)", x.told(0), -2);
        due("prove(0)", x.prove(0), -1);
        due("weight(0, 1)", x.weight(0, 1), 0);
        due("point(1, 1)", x.point(1, 1), 0);
        due("check()", x.check(), -2);
        due("equal()", x.equal(), -2);
        due("near(0)", x.near(0), 0);
        due("plant(0, 1, 1)", x.plant(0, 1, 1), -1);
    }

    private static void variables() {
        sentence("promise 2, variables");
        SquareSums x = new SquareSums();
        due("variables(1)", x.variables(1), 0);
        due("count(0)", x.count(0), 1);
        make(x, 1, 1, 1);
        make(x, 1, 1, -1);
        due("prove(1)", x.prove(1), 0);
        due("variables(0)", x.variables(0), -1);
        due("variables(5)", x.variables(5), -1);
        due("variables(-3)", x.variables(-3), -1);
        due("count(0) after BAD", x.count(0), 1);
        due("count(1) after BAD", x.count(1), 2);
        due("told(0) after BAD", x.told(0), 0);
        due("point(1, 1) after BAD", x.point(1, 1), 1);
        due("variables(4)", x.variables(4), 2);
        due("count(0)", x.count(0), 4);
        due("count(1)", x.count(1), 0);
        due("count(2)", x.count(2), 0);
        due("told(0)", x.told(0), -2);
        due("point(1, 1)", x.point(1, 1), 0);
        due("prove(0)", x.prove(0), -1);
        make(x, 1, 1, 1);
        due("prove(0)", x.prove(0), 1);
        due("equal()", x.equal(), 1);
        due("variables(4)", x.variables(4), 1);
        due("weight(0, 1)", x.weight(0, 1), 0);
        due("check()", x.check(), -2);
        due("equal()", x.equal(), -2);
        due("point(1, 1)", x.point(1, 1), 0);
        due("form()", x.form(), 0);
        due("term(0, 1, 1, 0)", x.term(0, 1, 1, 0), 0);
    }

    private static void form() {
        sentence("promise 3, form");
        SquareSums x = new SquareSums();
        for (int f = 0; f < 12; f++) {
            due("form()", x.form(), f);
            due("term(f, 1, 2, 5)", x.term(f, 1, 2, 5), 0);
        }
        due("form() the 13th", x.form(), -3);
        due("count(1)", x.count(1), 12);
        due("term(11, 1, 2, 5)", x.term(11, 1, 2, 5), 5);
        due("variables(2)", x.variables(2), 12);
        due("form()", x.form(), 0);
        due("term(0, 1, 2, 0) of a new form", x.term(0, 1, 2, 0), 0);
    }

    private static void term() {
        sentence("promise 4, term");
        SquareSums x = new SquareSums();
        x.form();
        due("term(0, 1, 2, 1000000)", x.term(0, 1, 2, 1000000), 0);
        due("term(0, 2, 1, -1000000)", x.term(0, 2, 1, -1000000), 1000000);
        due("term(0, 1, 2, 7)", x.term(0, 1, 2, 7), -1000000);
        due("term(0, 1, 2, 7)", x.term(0, 1, 2, 7), 7);
        due("term(0, 0, 0, 3)", x.term(0, 0, 0, 3), 0);
        due("term(0, 2, 0, 4)", x.term(0, 2, 0, 4), 0);
        due("term(0, 0, 2, 4)", x.term(0, 0, 2, 4), 4);
        int[][] bad = {{0, 1, 2, 1000001}, {0, 1, 2, -1000001}, {0, 1, 2, Integer.MIN_VALUE}, {0, 3, 1, 1},
            {0, 1, 3, 1}, {0, -1, 1, 1}, {0, 1, -1, 1}, {1, 1, 1, 1}, {-1, 1, 1, 1}, {12, 1, 1, 1},
            {0, Integer.MAX_VALUE, 1, 1}, {Integer.MIN_VALUE, 0, 0, 0}};
        for (int[] b : bad) {
            due("a bad term", x.term(b[0], b[1], b[2], b[3]), -2000000);
        }
        due("term(0, 1, 2, 0) after BAD", x.term(0, 1, 2, 0), 7);
    }

    private static void value() {
        sentence("promise 5, value");
        SquareSums x = of(2, 1, 1, 2, 1, 2, -3, 0, 2, 5, 0, 0, 7);
        due("value(0, 2, -1, 0, 0)", x.value(0, 2, -1, 0, 0), 16);
        due("value of what are no VARIABLES", x.value(0, 2, -1, 5000, Integer.MIN_VALUE), 16);
        due("value at 1000, -1000", x.value(0, 1000, -1000, 1001, 0), 2000000 + 3000000 - 5000 + 7);
        due("value at 1001", x.value(0, 1001, 0, 0, 0), -1);
        due("value at -1001", x.value(0, 0, -1001, 0, 0), -1);
        due("value(1, ..)", x.value(1, 0, 0, 0, 0), -1);
        due("value(-1, ..)", x.value(-1, 0, 0, 0, 0), -1);
        SquareSums y = of(4);
        for (int i = 0; i <= 4; i++) {
            for (int j = i; j <= 4; j++) {
                y.term(0, i, j, 1000000);
            }
        }
        due("the largest value", y.value(0, 1000, 1000, 1000, 1000), 10L * 1000000 * 1000000 + 4L * 1000 * 1000000 + 1000000);
        due("value at X 4 = 1001", y.value(0, 0, 0, 0, 1001), -1);
        due("value at X 3 = -1001", y.value(0, 0, 0, -1001, 0), -1);
        SquareSums z = of(1, 1, 1, -1000000, 0, 1, -1000000, 0, 0, -1000000);
        due("a value of one VARIABLE", z.value(0, 1000, 9999, 9999, 9999), -1000000000000L - 1000000000L - 1000000);
    }

    private static void plain() {
        sentence("promise 6, plain");
        due("plain of all above", of(2, 1, 1, 1, 2, 2, 1, 0, 0, 1).plain(0), 3);
        due("plain with one below", of(2, 1, 1, -1, 2, 2, 1, 0, 0, 1).plain(0), 2);
        due("plain with all below", of(2, 1, 1, -1, 2, 2, -1, 0, 0, -1).plain(0), 0);
        due("plain of 0", of(2).plain(0), -10);
        due("plain, X 2 has none", of(2, 1, 1, 1).plain(0), -11);
        due("plain, X 0 has none", of(2, 1, 1, 1, 2, 2, 1).plain(0), -12);
        due("plain, X 2 goes to 0", of(2, 1, 1, 1, 1, 2, 2, 2, 2, 1, 0, 0, 1).plain(0), -11);
        due("plain, X 0 goes to 0", of(2, 1, 1, 1, 2, 2, 1, 0, 1, 2, 0, 0, 1).plain(0), -12);
        due("plain of 4, X 0 has none", of(4, 1, 1, 1, 2, 2, 1, 3, 3, 1, 4, 4, 1).plain(0), -14);
        due("plain by signs changed", of(2, 1, 1, 1, 1, 2, 4, 2, 2, 1, 0, 0, 1).plain(0), 2);
        due("plain of one variable", of(1, 1, 1, 2, 0, 1, 2, 0, 0, 1).plain(0), 2);
        SquareSums x = of(4, 1, 1, 999983, 1, 2, 999979, 2, 2, 999961, 1, 3, 999959, 3, 3, 999953,
            2, 3, 999931, 1, 4, 999917, 4, 4, 999907, 2, 4, 999883, 3, 4, 999863, 0, 0, 1);
        due("plain that is TOO LONG", x.plain(0), -30);
        due("plain(1)", x.plain(1), -1);
        due("plain(-1)", x.plain(-1), -1);
        SquareSums y = of(2, 1, 1, 2, 2, 2, 3, 0, 0, 5);
        y.prove(0);
        y.plant(1, 7, 2);
        make(y, 1, 1, -8, 1, 2, 6, 2, 2, 11, 0, 0, 13);
        due("plain(1) beside a proof", y.plain(1), 2);
        due("told(2) after plain", y.told(2), 0);
        due("count(2) after plain", y.count(2), 1);
        dueSquare(y, 0, 2, 1, 0, 1, 1, 1, 0, 1);
        dueSquare(y, 1, 7, 2, 0, 1, 0, 1, 1, 1);
    }

    private static void proveDone() {
        sentence("promise 7, prove");
        SquareSums x = of(2, 1, 1, 2, 1, 2, 3, 0, 1, -2, 2, 2, 5, 0, 0, 9);
        due("prove(0)", x.prove(0), 1);
        dueTold(x, 1, 3, 0, -1, 0, 1, 0);
        dueSquare(x, 0, 2, 1, -1, 2, 1, 1, 3, 4);
        dueSquare(x, 1, 31, 8, 6, 31, 0, 1, 1, 1);
        dueSquare(x, 2, 259, 31, 1, 1, 0, 1, 0, 1);
        due("check()", x.check(), 1);
        SquareSums y = of(3, 3, 3, 4, 0, 3, 4, 0, 0, 1);
        due("prove with no X 1, X 2", y.prove(0), 1);
        due("told(1)", y.told(1), 1);
        dueSquare(y, 0, 4, 1, 1, 2, 0, 1, 0, 1, 1, 1);
        due("prove of 0", of(4).prove(0), 1);
        due("prove(1)", x.prove(1), -1);
        due("prove(-1)", x.prove(-1), -1);
        due("count(2) after BAD", x.count(2), 1);
        due("told(0) after BAD", x.told(0), 1);
    }

    private static void proveNegative() {
        sentence("promise 7, prove");
        SquareSums x = of(2, 0, 1, 1);
        due("prove X 1", x.prove(0), 0);
        dueTold(x, 0, 0, 0, -1, 0, 1, 0);
        duePoint(x, -1, 1, 0, 1);
        SquareSums minus = of(2, 0, 1, -1);
        due("prove - X 1", minus.prove(0), 0);
        duePoint(minus, 1, 1, 0, 1);
        SquareSums y = of(2, 1, 1, -1, 0, 0, 100);
        due("prove 100 - X 1 X 1", y.prove(0), 0);
        duePoint(y, 16, 1, 0, 1);
        SquareSums edge = of(2, 1, 1, -1, 0, 0, 256);
        due("prove 256 - X 1 X 1", edge.prove(0), 0);
        duePoint(edge, 32, 1, 0, 1);
        SquareSums z = of(2, 1, 2, 1);
        due("prove X 1 X 2", z.prove(0), 0);
        duePoint(z, 1, 1, -1, 1);
        SquareSums w = of(2, 1, 1, 1, 1, 2, 4, 2, 2, 1);
        due("prove with a PIVOT ahead", w.prove(0), 0);
        duePoint(w, -2, 1, 1, 1);
        SquareSums u = of(1, 1, 1, 1, 0, 1, -3, 0, 0, 2);
        due("prove with X 0 below", u.prove(0), 0);
        duePoint(u, 3, 2);
        SquareSums first = of(3, 2, 2, -1, 3, 3, -1, 0, 0, -1, 1, 1, 1);
        due("prove, X 2 is the first below", first.prove(0), 0);
        duePoint(first, 0, 1, 1, 1, 0, 1);
        SquareSums pairs = of(3, 2, 3, 1, 0, 1, 1);
        due("prove, 1 0 is the first pair", pairs.prove(0), 0);
        duePoint(pairs, -1, 1, 0, 1, 0, 1);
        SquareSums third = of(1, 1, 1, 3, 0, 1, 2, 0, 0, -5);
        due("prove with a third in THE POINT", third.prove(0), 0);
        duePoint(third, 0, 1);
        due("weight(0, 1) by 0", third.weight(0, 1), 0);
        due("check() by 0", third.check(), -2);
        due("equal() by 0", third.equal(), -2);
    }

    private static void proveTooLong() {
        sentence("promise 7, prove");
        SquareSums x = of(4, 1, 1, 999983, 1, 2, 999979, 2, 2, 999961, 1, 3, 999959, 3, 3, 999953,
            2, 3, 999931, 1, 4, 999917, 4, 4, 999907, 2, 4, 999883, 3, 4, 999863, 0, 0, 1);
        due("prove that is TOO LONG", x.prove(0), 2);
        dueTold(x, 2, 0, 0, -1, 0, 1, 0);
        due("weight(0, 1) by 2", x.weight(0, 1), 0);
        due("line(0, 1, 1) by 2", x.line(0, 1, 1), 0);
        due("point(1, 1) by 2", x.point(1, 1), 0);
        due("near(0) by 2", x.near(0), 0);
        due("plant(0, 1, 1) by 2", x.plant(0, 1, 1), -1);
        due("check() by 2", x.check(), -2);
        due("equal() by 2", x.equal(), -2);
        due("count(2)", x.count(2), 1);
    }

    private static void underDone() {
        sentence("promise 8, under");
        SquareSums x = of(1, 1, 1, 1, 0, 0, -1);
        make(x, 0, 1, 1, 0, 0, -1);
        due("under(0, 1, 2)", x.under(0, 1, 2), 2);
        dueTold(x, 2, 0, 0, 1, 0, 1, 2);
        due("point(1, 1) by 2", x.point(1, 1), 0);
        due("under(0, 1, 20)", x.under(0, 1, 20), 1);
        dueTold(x, 1, 1, 0, 1, 2, 1, 3);
        dueSquare(x, 0, 1, 1, -1, 1, 1, 1);
        due("check()", x.check(), 1);
        due("equal()", x.equal(), 1);
        duePoint(x, 1, 1);
        SquareSums y = of(2, 0, 1, 3);
        make(y, 0, 1, 2);
        due("under by 3 / 2", y.under(0, 1, 5), 1);
        dueTold(y, 1, 0, 0, 1, 3, 2, 8);
        due("check() of no SQUARES", y.check(), 1);
        due("under by 2 / 3", y.under(1, 0, 5), 1);
        dueTold(y, 1, 0, 1, 0, 2, 3, 9);
        SquareSums z = of(2, 1, 1, 1);
        make(z, 1, 1, -1);
        due("under by 0", z.under(0, 1, 1), 1);
        dueTold(z, 1, 1, 0, 1, 0, 1, 1);
        due("under of itself", y.under(0, 0, 2), 1);
        dueTold(y, 1, 0, 0, 0, 1, 1, 2);
    }

    private static void underNot() {
        sentence("promise 8, under");
        SquareSums x = of(2, 0, 1, 1, 0, 0, -1);
        make(x, 0, 1, 1);
        due("under at X 1 = 0", x.under(0, 1, 20), 0);
        dueTold(x, 0, 0, 0, 1, 0, 1, 128);
        duePoint(x, 0, 1, -3, 1);
        SquareSums y = of(2, 0, 1, 1, 0, 2, 1, 0, 0, 4);
        make(y, 0, 0, 1);
        due("under at -3, -3", y.under(0, 1, 1), 0);
        duePoint(y, -3, 1, -3, 1);
        SquareSums last = of(2, 0, 1, -1, 0, 2, -1, 0, 0, 5);
        make(last, 0, 0, 0);
        due("under at 3, 3", last.under(0, 1, 3), 0);
        duePoint(last, 3, 1, 3, 1);
        SquareSums order = of(2, 1, 2, 1, 0, 0, 8);
        make(order, 0, 0, 1);
        due("under, X 1 goes slowest", order.under(0, 1, 2), 0);
        duePoint(order, -3, 1, 3, 1);
        SquareSums far = of(1, 0, 1, -1, 0, 0, 3);
        make(far, 0, 0, 1);
        due("under with a point too far out", far.under(0, 1, 20), 2);
        dueTold(far, 2, 0, 0, 1, 0, 1, 128);
        int[][] bad = {{2, 0, 1}, {0, 2, 1}, {-1, 0, 1}, {0, -1, 1}, {0, 1, 0}, {0, 1, 21}, {0, 1, -5}};
        for (int[] b : bad) {
            due("a bad under", x.under(b[0], b[1], b[2]), -1);
        }
        due("count(2) after BAD", x.count(2), 1);
        dueTold(x, 0, 0, 0, 1, 0, 1, 128);
        duePoint(x, 0, 1, -3, 1);
    }

    private static void told() {
        sentence("promise 9, told");
        SquareSums x = of(2, 1, 1, 1);
        due("told(0) with none", x.told(0), -2);
        due("told(6) with none", x.told(6), -2);
        due("told(7) with none", x.told(7), -1);
        due("told(-1) with none", x.told(-1), -1);
        make(x, 2, 2, 1, 0, 0, 1);
        x.prove(1);
        dueTold(x, 1, 2, 1, -1, 0, 1, 0, -1);
        x.under(0, 1, 3);
        dueTold(x, 1, 1, 0, 1, 0, 1, 1, -1);
        due("told(-1)", x.told(-1), -1);
        x.term(0, 1, 1, -1);
        dueTold(x, 1, 1, 0, 1, 0, 1, 1);
        x.variables(2);
        due("told(0) after variables()", x.told(0), -2);
    }

    private static void weightAndLine() {
        sentence("promise 10 and 11, weight and line");
        SquareSums x = of(2, 1, 1, 2, 1, 2, 3, 0, 1, -2, 2, 2, 5, 0, 0, 9);
        due("weight(0, 0) with none", x.weight(0, 0), 0);
        x.prove(0);
        due("weight(1, 0)", x.weight(1, 0), 31);
        due("weight(1, 1)", x.weight(1, 1), 8);
        due("weight(3, 1)", x.weight(3, 1), 0);
        due("weight(-1, 1)", x.weight(-1, 1), 0);
        due("weight(0, 2)", x.weight(0, 2), 0);
        due("weight(0, -1)", x.weight(0, -1), 0);
        due("line(0, 2, 0)", x.line(0, 2, 0), 3);
        due("line(0, 2, 1)", x.line(0, 2, 1), 4);
        due("line(1, 1, 0) has none", x.line(1, 1, 0), 0);
        due("line(1, 1, 1) has none", x.line(1, 1, 1), 1);
        due("line(0, 3, 1)", x.line(0, 3, 1), 0);
        due("line(0, -1, 1)", x.line(0, -1, 1), 0);
        due("line(3, 0, 1)", x.line(3, 0, 1), 0);
        due("line(-1, 0, 1)", x.line(-1, 0, 1), 0);
        due("line(0, 0, 2)", x.line(0, 0, 2), 0);
        due("line(0, 0, -1)", x.line(0, 0, -1), 0);
        make(x, 1, 1, 1);
        x.prove(1);
        due("weight(1, 1) of one SQUARE", x.weight(1, 1), 0);
        due("line(1, 0, 1) of one SQUARE", x.line(1, 0, 1), 0);
    }

    private static void point() {
        sentence("promise 12, point");
        SquareSums x = of(2, 1, 1, 3, 0, 1, 4, 0, 0, 1);
        due("point(1, 1) with none", x.point(1, 1), 0);
        due("prove(0)", x.prove(0), 0);
        duePoint(x, -2, 3, 0, 1);
        due("point(0, 1)", x.point(0, 1), 0);
        due("point(3, 1)", x.point(3, 1), 0);
        due("point(-1, 1)", x.point(-1, 1), 0);
        due("point(1, 2)", x.point(1, 2), 0);
        due("point(1, -1)", x.point(1, -1), 0);
        make(x, 1, 1, 1);
        x.prove(1);
        due("point(1, 1) by 1", x.point(1, 1), 0);
    }

    private static void near() {
        sentence("promise 13, near");
        SquareSums x = of(1, 1, 1, 1);
        due("near(0) with none", x.near(0), 0);
        x.prove(0);
        due("near(0) of 1", x.near(0), 0x3FF0000000000000L);
        due("near(1)", x.near(1), 0);
        due("near(-1)", x.near(-1), 0);
        long[] numbers = {1, 2, 3, 7, 10, 1023, 1L << 52, (1L << 53) + 1, (1L << 62) + 1, Long.MAX_VALUE,
            Long.MAX_VALUE - 512, 1000000007L, 999999999999999989L, 0};
        for (long up : numbers) {
            SquareSums y = of(1, 1, 1, 1);
            y.prove(0);
            for (long down : numbers) {
                if (down == 0) {
                    continue;
                }
                y.plant(0, up, down);
                due("near(0) of " + up + " / " + down, y.near(0), bits(y));
                y.plant(0, -up, down);
                due("near(0) of -" + up + " / " + down, y.near(0), bits(y));
            }
        }
    }

    private static long bits(SquareSums x) {
        return Double.doubleToLongBits((double) x.weight(0, 0) / (double) x.weight(0, 1));
    }

    private static void plant() {
        sentence("promise 14, plant");
        SquareSums x = of(2, 1, 1, 1, 2, 2, 1);
        due("plant with none", x.plant(0, 1, 1), -1);
        x.prove(0);
        due("plant(1, -6, -4)", x.plant(1, -6, -4), 0);
        dueSquare(x, 1, 3, 2, 0, 1, 0, 1, 1, 1);
        due("plant(1, 6, -4)", x.plant(1, 6, -4), 0);
        dueSquare(x, 1, -3, 2);
        due("plant(1, 0, -4)", x.plant(1, 0, -4), 0);
        dueSquare(x, 1, 0, 1);
        due("plant the greatest", x.plant(1, Long.MAX_VALUE, 1), 0);
        due("plant the least but one", x.plant(1, -Long.MAX_VALUE, 1), 0);
        dueSquare(x, 1, -Long.MAX_VALUE, 1);
        due("plant(2, 1, 1)", x.plant(2, 1, 1), -1);
        due("plant(-1, 1, 1)", x.plant(-1, 1, 1), -1);
        due("plant(1, 1, 0)", x.plant(1, 1, 0), -1);
        due("plant the least, by 0", x.plant(1, LEAST, 0), -1);
        due("plant the least, no such SQUARE", x.plant(2, LEAST, 1), -1);
        due("plant the least", x.plant(1, LEAST, 1), -30);
        due("plant by the least", x.plant(1, 1, LEAST), -30);
        dueSquare(x, 1, -Long.MAX_VALUE, 1);
        dueSquare(x, 0, 1, 1);
    }

    private static void check() {
        sentence("promise 15, check");
        SquareSums x = of(2, 1, 1, 2, 1, 2, 3, 0, 1, -2, 2, 2, 5, 0, 0, 9);
        due("check() with none", x.check(), -2);
        x.prove(0);
        due("check()", x.check(), 1);
        x.plant(2, 258, 31);
        due("check() of a spoilt one", x.check(), 0);
        x.plant(2, 518, 62);
        due("check() of the right one again", x.check(), 1);
        x.plant(0, Long.MAX_VALUE, 1);
        due("check() that is TOO LONG", x.check(), 2);
        x.plant(0, 2, 1);
        x.term(0, 1, 1, 77);
        due("check() of the MATRIX as it was then", x.check(), 1);
        SquareSums y = of(2, 1, 1, 1, 2, 2, 4, 0, 0, 9, 1, 2, 4, 1, 0, 6, 2, 0, 12);
        y.prove(0);
        y.plant(0, 2000000000000000000L, 3);
        due("check() with 2 0 alone TOO LONG", y.check(), 2);
        SquareSums z = of(2, 1, 1, -1);
        z.prove(0);
        due("check() by 0", z.check(), -2);
    }

    private static void equal() {
        sentence("promise 16, equal");
        SquareSums x = of(2, 1, 1, 1, 0, 1, -4, 0, 0, 4, 2, 2, 9, 0, 2, 6);
        x.term(0, 0, 0, 5);
        due("equal() with none", x.equal(), -2);
        due("prove(0)", x.prove(0), 1);
        due("equal()", x.equal(), 1);
        duePoint(x, 2, 1, -1, 3);
        x.plant(0, 5, 1);
        due("equal() again", x.equal(), 1);
        dueTold(x, 1, 2, 0, -1, 0, 1, 0);
        due("weight(0, 0) after equal()", x.weight(0, 0), 5);
        x.term(0, 0, 0, 6);
        x.prove(0);
        due("point(1, 1) of a new proof", x.point(1, 1), 0);
        due("equal() nowhere", x.equal(), 0);
        due("point(1, 1) by 0", x.point(1, 1), 0);
        SquareSums y = of(2);
        y.prove(0);
        due("equal() of 0", y.equal(), 1);
        duePoint(y, 0, 1, 0, 1);
        SquareSums w = of(3, 1, 1, 1, 1, 2, 2, 2, 2, 1, 3, 3, 1, 1, 0, 2, 2, 0, 2, 0, 0, 1);
        w.prove(0);
        due("equal() with X 2 LEFT, too", w.equal(), 1);
        duePoint(w, -1, 1, 0, 1, 0, 1);
        SquareSums z = of(2, 1, 1, -1);
        z.prove(0);
        due("equal() by 0", z.equal(), -2);
        due("point(1, 0) after STATE", z.point(1, 0), 1);
    }

    private static void pivot() {
        sentence("promise 17, pivot");
        SquareSums x = new SquareSums();
        due("pivot(7, 2)", x.pivot(7, 2), 3);
        due("pivot(-7, 2)", x.pivot(-7, 2), -3);
        due("pivot(7, -2)", x.pivot(7, -2), -3);
        due("pivot(0, 5)", x.pivot(0, 5), 0);
        due("pivot(5, 0)", x.pivot(5, 0), -30);
        due("pivot(0, 0)", x.pivot(0, 0), -30);
        due("pivot(60, -2)", x.pivot(60, -2), -30);
        due("pivot of the least", x.pivot(LEAST, -1), LEAST);
        due("pivot by the least", x.pivot(Long.MAX_VALUE, LEAST), 0);
    }

    private static void count() {
        sentence("promise 18, count");
        SquareSums x = of(3, 1, 1, 1);
        make(x, 1, 1, -1);
        due("count(0)", x.count(0), 3);
        due("count(1)", x.count(1), 2);
        x.prove(0);
        x.prove(1);
        x.under(0, 1, 1);
        x.under(1, 0, 1);
        x.check();
        x.plain(0);
        x.equal();
        due("count(2)", x.count(2), 4);
        due("count(3)", x.count(3), -1);
        due("count(-1)", x.count(-1), -1);
        x.variables(3);
        due("count(2) after variables()", x.count(2), 0);
    }

    public static void main(String[] args) {
        newObject();
        variables();
        form();
        term();
        value();
        plain();
        proveDone();
        proveNegative();
        proveTooLong();
        underDone();
        underNot();
        told();
        weightAndLine();
        point();
        near();
        plant();
        check();
        equal();
        pivot();
        count();
        end();
    }
}
