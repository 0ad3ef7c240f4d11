/** The edges that the promises name: each sentence has a test of its own. */
public final class PromiseEdgesTest extends Asking {
    private static final int MOST = Integer.MAX_VALUE;
    private static final int FEWEST = Integer.MIN_VALUE;

    /** 2 X1 X1 + 3 X1 X2 - 2 X1 + 5 X2 X2 + 9: three SQUARES, of WEIGHTS 2, 31 / 8, 259 / 31. */
    private static SquareSums threeSquares() {
        return proved(1, 2, 1, 1, 2, 1, 2, 3, 0, 1, -2, 2, 2, 5, 0, 0, 9);
    }

    /** A FORM of which 2 is answered, as no t is found. */
    private static SquareSums unsettled() {
        return proved(2, 2, 1, 1, 524288, 1, 2, 1, 0, 2, 524288);
    }

    private static void newObject() {
        sentence("Promise 1: Two VARIABLES, no FORMS");
        SquareSums x = new SquareSums();
        due("count(0)", x.count(0), 2);
        due("count(1)", x.count(1), 0);
        due("count(2)", x.count(2), 0);
        due("value(0, ..)", x.value(0, 0, 0, 0, 0), -1);
        due("term(0, ..)", x.term(0, 0, 0, 1), BAD_TERM);
        due("plain(0)", x.plain(0), BAD);
        due("prove(0)", x.prove(0), BAD);
        due("under(0, 0, 1)", x.under(0, 0, 1), BAD);
        due("told(0)", x.told(0), STATE);
        due("check()", x.check(), STATE);
        due("equal()", x.equal(), STATE);
        due("variables(2), no FORMS there were", x.variables(2), 0);
        due("form(), the first", new SquareSums().form(), 0);
    }

    private static void twoObjects() {
        sentence("Promise 1: a new object has nothing of another");
        SquareSums x = threeSquares();
        SquareSums y = new SquareSums();
        due("count(1) of a second object", y.count(1), 0);
        y.form();
        y.term(0, 1, 1, -1);
        y.prove(0);
        y.variables(4);
        due("count(0) of the first", x.count(0), 2);
        due("told(0) of the first", x.told(0), 1);
        due("value of the first", x.value(0, 1, 0, 0, 0), 9);
        dueSquare(x, 2, 259, 31, 1, 1, 0, 1, 0, 1);
    }

    private static void variablesRange() {
        sentence("Promise 2: variables, BAD");
        for (int n = 1; n <= 4; n++) {
            due("variables(" + n + ")", new SquareSums().variables(n), 0);
        }
        for (int n : new int[] {0, 5, -1, 6, MOST, FEWEST}) {
            due("variables(" + n + ")", new SquareSums().variables(n), BAD);
        }
    }

    private static void formsThereWere() {
        sentence("Promise 2: how many FORMS there were");
        SquareSums x = new SquareSums();
        due("variables(3) of none", x.variables(3), 0);
        x.form();
        due("variables(3) of one", x.variables(3), 1);
        due("variables(3) of none again", x.variables(3), 0);
        for (int f = 0; f < 13; f++) {
            x.form();
        }
        due("variables(3) of all", x.variables(3), 12);
        due("form() again", x.form(), 0);
    }

    private static void nothingProved() {
        sentence("Promise 2: nothing proved");
        SquareSums after1 = threeSquares();
        after1.variables(2);
        dueNothingProved(after1);
        SquareSums afterEqual = proved(1, 2, 1, 1, 1);
        due("equal()", afterEqual.equal(), 1);
        afterEqual.variables(2);
        dueNothingProved(afterEqual);
        SquareSums after0 = proved(0, 2, 1, 1, -1);
        after0.variables(2);
        dueNothingProved(after0);
        SquareSums after2 = unsettled();
        after2.variables(2);
        dueNothingProved(after2);
    }

    private static void dueNothingProved(SquareSums x) {
        due("count(2)", x.count(2), 0);
        dueTold(x, STATE, STATE, STATE, STATE, STATE, STATE, STATE);
        due("weight(0, 1)", x.weight(0, 1), 0);
        due("line(0, 1, 1)", x.line(0, 1, 1), 0);
        due("near(0)", x.near(0), 0);
        due("plant(0, 1, 1)", x.plant(0, 1, 1), BAD);
        due("check()", x.check(), STATE);
        due("equal()", x.equal(), STATE);
        dueNoPoint(x);
    }

    private static void fewerVariables() {
        sentence("Promise 2: there are n VARIABLES, no FORMS: nothing of those with more is left over");
        SquareSums x = of(4, 1, 1, 1, 2, 2, 2, 3, 3, -3, 4, 4, -4, 0, 4, 9, 1, 4, 9);
        x.variables(1);
        make(x, 1, 1, 3, 0, 0, 5);
        due("prove with one VARIABLE", x.prove(0), 1);
        dueSquare(x, 0, 3, 1, 0, 1, 1, 1, 0, 0);
        dueSquare(x, 1, 5, 1, 1, 1, 0, 1, 0, 0);
        due("told(1)", x.told(1), 2);
        due("plain", x.plain(0), 2);
        x.variables(4);
        make(x, 4, 4, 2);
        due("prove with four again", x.prove(0), 1);
        due("told(1)", x.told(1), 1);
        dueSquare(x, 0, 2, 1, 0, 1, 0, 1, 0, 1, 0, 1, 1, 1);
    }

    private static void thirteenthForm() {
        sentence("Promise 3: A FORM: its number. FULL");
        SquareSums x = new SquareSums();
        for (int f = 0; f < 11; f++) {
            due("form()", x.form(), f);
        }
        due("count(1), one below FULL", x.count(1), 11);
        due("form() the 12th", x.form(), 11);
        due("form() the 13th", x.form(), FULL);
        due("count(1)", x.count(1), 12);
        due("term of the 12th", x.term(11, 0, 0, 3), 0);
        due("term of a 13th", x.term(12, 0, 0, 3), BAD_TERM);
        x.variables(1);
        due("form() after variables()", x.form(), 0);
    }

    private static void termNumbers() {
        sentence("Promise 4: another number (-1000000 .. 1000000): what it was. BAD: -2000000");
        SquareSums x = of(2);
        due("1000000", x.term(0, 1, 1, 1000000), 0);
        due("1000001", x.term(0, 1, 1, 1000001), BAD_TERM);
        due("the greatest int", x.term(0, 1, 1, MOST), BAD_TERM);
        due("-1000000", x.term(0, 1, 1, -1000000), 1000000);
        due("-1000001", x.term(0, 1, 1, -1000001), BAD_TERM);
        due("the least int", x.term(0, 1, 1, FEWEST), BAD_TERM);
        due("0", x.term(0, 1, 1, 0), -1000000);
        due("0 again", x.term(0, 1, 1, 0), 0);
    }

    private static void termEitherWay() {
        sentence("Promise 4: i and j either way about");
        SquareSums x = of(4);
        for (int i = 0; i <= 4; i++) {
            for (int j = i + 1; j <= 4; j++) {
                due("term(0, i, j, ..)", x.term(0, i, j, 10 * i + j), 0);
                due("term(0, j, i, ..)", x.term(0, j, i, 100 + 10 * i + j), 10 * i + j);
            }
        }
        for (int i = 0; i <= 4; i++) {
            for (int j = i + 1; j <= 4; j++) {
                due("term(0, i, j, 0) at last", x.term(0, i, j, 0), 100 + 10 * i + j);
            }
        }
    }

    private static void termIndices() {
        sentence("Promise 4: there is no such FORM, no such i, j");
        SquareSums x = of(3);
        for (int bad : new int[] {-1, 4, 5, MOST, FEWEST}) {
            due("i = " + bad, x.term(0, bad, 1, 5), BAD_TERM);
            due("j = " + bad, x.term(0, 1, bad, 5), BAD_TERM);
            due("both are " + bad, x.term(0, bad, bad, 5), BAD_TERM);
        }
        for (int bad : new int[] {-1, 1, 11, 12, MOST, FEWEST}) {
            due("form = " + bad, x.term(bad, 1, 1, 5), BAD_TERM);
        }
        due("v 0 0", x.term(0, 0, 0, 5), 0);
        due("v 3 3", x.term(0, 3, 3, 5), 0);
        due("v 0 3", x.term(0, 0, 3, 5), 0);
    }

    private static long valueAt(SquareSums x, int k, int at) {
        int[] place = new int[5];
        place[k] = at;
        return x.value(0, place[1], place[2], place[3], place[4]);
    }

    private static void valueRange() {
        sentence("Promise 5: whole X 1 .. X 4 (-1000 .. 1000; those that are no VARIABLES are not looked at)");
        for (int n = 1; n <= 4; n++) {
            SquareSums x = of(n, 0, 0, 7);
            for (int k = 1; k <= n; k++) {
                x.term(0, k, k, k);
                x.term(0, 0, k, 1);
            }
            for (int k = 1; k <= 4; k++) {
                boolean there = k <= n;
                due("X " + k + " = 1000 of " + n, valueAt(x, k, 1000), there ? 1000000L * k + 1007 : 7);
                due("X " + k + " = -1000 of " + n, valueAt(x, k, -1000), there ? 1000000L * k - 993 : 7);
                due("X " + k + " = 1001 of " + n, valueAt(x, k, 1001), there ? -1 : 7);
                due("X " + k + " = -1001 of " + n, valueAt(x, k, -1001), there ? -1 : 7);
                due("X " + k + " the greatest int of " + n, valueAt(x, k, MOST), there ? -1 : 7);
                due("X " + k + " the least int of " + n, valueAt(x, k, FEWEST), there ? -1 : 7);
            }
        }
    }

    private static void valueLargest() {
        sentence("Promise 5: the FORM at the farthest points");
        SquareSums x = of(4);
        SquareSums y = of(4);
        for (int i = 0; i <= 4; i++) {
            for (int j = i; j <= 4; j++) {
                x.term(0, i, j, 1000000);
                y.term(0, i, j, -1000000);
            }
        }
        due("the largest", x.value(0, 1000, 1000, 1000, 1000), 10004001000000L);
        due("the least", y.value(0, 1000, 1000, 1000, 1000), -10004001000000L);
        due("all below 0", x.value(0, -1000, -1000, -1000, -1000), 9996001000000L);
    }

    private static void valueBad() {
        sentence("Promise 5: BAD: -1");
        SquareSums x = of(1, 0, 0, -1);
        due("a FORM that is -1 itself", x.value(0, 0, 0, 0, 0), -1);
        x.term(0, 0, 0, 5);
        due("value(0, ..)", x.value(0, 0, 0, 0, 0), 5);
        for (int bad : new int[] {-1, 1, 11, 12, MOST, FEWEST}) {
            due("form = " + bad, x.value(bad, 0, 0, 0, 0), -1);
        }
    }

    private static void plainByZero() {
        sentence("Promise 6: -10 less the number of the turn (from 0 on) that would divide by 0, also in the last turn");
        for (int n = 1; n <= 4; n++) {
            for (int turn = 0; turn <= n; turn++) {
                int zero = turn < n ? turn + 1 : 0;
                SquareSums x = of(n);
                for (int k = 0; k <= n; k++) {
                    x.term(0, k, k, k == zero ? 0 : 3);
                }
                due("plain, turn " + turn + " of " + n, x.plain(0), -10 - turn);
                x.term(0, zero, zero, 1);
                due("plain, it is above 0", x.plain(0), n + 1);
                x.term(0, zero, zero, -1);
                due("plain, it is below 0", x.plain(0), n);
            }
        }
    }

    private static void plainGoesToZero() {
        sentence("Promise 6: a turn that divides by what has become 0");
        due("X 2 becomes 0", of(2, 1, 1, 4, 1, 2, 4, 2, 2, 1, 0, 0, 1).plain(0), -11);
        due("X 2 becomes more", of(2, 1, 1, 4, 1, 2, 4, 2, 2, 2, 0, 0, 1).plain(0), 3);
        due("X 2 becomes less", of(2, 1, 1, 4, 1, 2, 4, 2, 2, 0, 0, 0, 1).plain(0), 2);
        due("X 0 becomes 0, in the last turn", of(1, 1, 1, 4, 0, 1, 4, 0, 0, 1).plain(0), -11);
        due("X 0 becomes more", of(1, 1, 1, 4, 0, 1, 4, 0, 0, 2).plain(0), 2);
        due("X 0 becomes less", of(1, 1, 1, 4, 0, 1, 4, 0, 0, 0).plain(0), 1);
        due("X 2 was 0 and is no more", of(2, 1, 1, 1, 1, 2, 2, 0, 0, 1).plain(0), 2);
        due("a PIVOT below 0 ahead", of(1, 1, 1, -1, 0, 1, 2, 0, 0, -1).plain(0), -11);
        due("the first of two turns", of(3, 1, 1, 1).plain(0), -11);
    }

    private static void plainLong() {
        sentence("Promise 6: LONG: something is TOO LONG");
        int[] rows = {1, 1, 999983, 1, 2, 999979, 2, 2, 999961, 1, 3, 999959, 3, 3, 999953, 2, 3, 999931, 0, 0, 1};
        due("plain(0) that is TOO LONG", of(3, rows).plain(0), LONG);
        SquareSums first = of(3, rows);
        first.term(0, 1, 1, 0);
        due("a turn by 0 ahead of it", first.plain(0), -10);
        SquareSums last = of(3, rows);
        last.term(0, 0, 0, 0);
        due("a turn by 0 behind it", last.plain(0), LONG);
        SquareSums x = of(2, 1, 1, 7, 2, 2, 7, 0, 0, 7);
        due("plain that is not", x.plain(0), 3);
    }

    private static void plainBad() {
        sentence("Promise 6: BAD");
        SquareSums x = of(1, 1, 1, 1, 0, 0, 1);
        due("plain(0)", x.plain(0), 2);
        for (int bad : new int[] {-1, 1, 11, 12, MOST, FEWEST}) {
            due("plain(" + bad + ")", x.plain(bad), BAD);
        }
    }

    private static void proveBad() {
        sentence("Promise 7: BAD");
        SquareSums x = of(1, 1, 1, 1);
        make(x, 1, 1, -1);
        due("prove(0)", x.prove(0), 1);
        due("prove(1)", x.prove(1), 0);
        for (int bad : new int[] {-1, 2, 11, 12, MOST, FEWEST}) {
            due("prove(" + bad + ")", x.prove(bad), BAD);
        }
        due("count(2)", x.count(2), 2);
        dueTold(x, 0, 0, 1, -1, 0, 1, 0);
    }

    private static void underFiner() {
        sentence("Promise 8: FINER 1 .. 20");
        SquareSums x = of(1, 0, 1, 19);
        make(x, 0, 1, 1);
        due("FINER 0", x.under(0, 1, 0), BAD);
        due("FINER -1", x.under(0, 1, -1), BAD);
        due("FINER 21", x.under(0, 1, 21), BAD);
        due("the greatest int", x.under(0, 1, MOST), BAD);
        due("the least int", x.under(0, 1, FEWEST), BAD);
        due("none of them was a proof", x.count(2), 0);
        due("FINER 1", x.under(0, 1, 1), 2);
        due("told(6)", x.told(6), 1);
        due("FINER 19", x.under(0, 1, 19), 2);
        due("told(6)", x.told(6), 120);
        due("FINER 20", x.under(0, 1, 20), 1);
        dueTold(x, 1, 0, 0, 1, 19, 1, 121);
    }

    private static void underBad() {
        sentence("Promise 8: BAD");
        SquareSums x = of(1, 1, 1, 1);
        make(x, 0, 1, 1);
        for (int bad : new int[] {-1, 2, 11, 12, MOST, FEWEST}) {
            due("goal = " + bad, x.under(bad, 0, 1), BAD);
            due("condition = " + bad, x.under(0, bad, 1), BAD);
            due("both = " + bad, x.under(bad, bad, 1), BAD);
        }
        due("count(2)", x.count(2), 0);
        due("told(0)", x.told(0), STATE);
        due("under(0, 1, 1)", x.under(0, 1, 1), 1);
    }

    private static void toldWithoutMultiplier() {
        sentence("Promise 9: 3 the CONDITION (-1), 4, 5 up, down of the MULTIPLIER (0, 1 without)");
        SquareSums x = of(1, 0, 1, 3);
        make(x, 0, 1, 2);
        make(x, 1, 1, 1);
        due("under(0, 1, 5)", x.under(0, 1, 5), 1);
        dueTold(x, 1, 0, 0, 1, 3, 2, 8);
        due("prove(2) behind it", x.prove(2), 1);
        dueTold(x, 1, 1, 2, -1, 0, 1, 0);
        due("under(0, 1, 5) again", x.under(0, 1, 5), 1);
        due("prove(1) behind it", x.prove(1), 0);
        dueTold(x, 0, 0, 1, -1, 0, 1, 0);
    }

    private static void toldOfUnderThatIsNotOne() {
        sentence("Promise 9: of under() that is not 1 likewise");
        SquareSums x = of(1, 0, 1, 3);
        make(x, 0, 1, 2);
        make(x, 0, 0, -1);
        due("under by 3 / 2", x.under(0, 1, 5), 1);
        due("under that answers 2", x.under(0, 1, 4), 2);
        dueTold(x, 2, 0, 0, 1, 0, 1, 6);
        due("under by 3 / 2 again", x.under(0, 1, 5), 1);
        due("under that answers 0", x.under(2, 1, 3), 0);
        dueTold(x, 0, 0, 2, 1, 0, 1, 4);
    }

    private static void toldBadAndState() {
        sentence("Promise 9: STATE: there was none since variables(). BAD");
        SquareSums x = of(1, 1, 1, 1);
        for (int what = 0; what <= 6; what++) {
            due("told(" + what + "), there was none", x.told(what), STATE);
        }
        x.prove(1);
        x.plain(0);
        x.value(0, 1, 1, 1, 1);
        due("told(0) after a refused prove()", x.told(0), STATE);
        x.prove(0);
        for (int bad : new int[] {-1, 7, 8, MOST, FEWEST}) {
            due("told(" + bad + ")", x.told(bad), BAD);
        }
        dueTold(x, 1, 1, 0, -1, 0, 1, 0);
        x.variables(5);
        due("told(0) after a refused variables()", x.told(0), 1);
        x.variables(1);
        due("told(0) after variables()", x.told(0), STATE);
        due("told(7) after variables()", x.told(7), BAD);
    }

    private static void weightEdges() {
        sentence("Promise 10: Up (part = 0), down (1) of the WEIGHT of SQUARE i. BAD: 0");
        SquareSums x = threeSquares();
        due("the first", x.weight(0, 0), 2);
        due("its down", x.weight(0, 1), 1);
        due("the last", x.weight(2, 0), 259);
        due("its down", x.weight(2, 1), 31);
        for (int bad : new int[] {-1, 3, 4, 5, MOST, FEWEST}) {
            due("up of " + bad, x.weight(bad, 0), 0);
            due("down of " + bad, x.weight(bad, 1), 0);
        }
        for (int bad : new int[] {-1, 2, MOST, FEWEST}) {
            due("part " + bad + " of the first", x.weight(0, bad), 0);
            due("part " + bad + " of the last", x.weight(2, bad), 0);
        }
        due("up of what is no SQUARE any more", proved(0, 2, 1, 1, 1, 0, 0, -1).weight(0, 0), 0);
        SquareSums five = proved(1, 4, 1, 1, 1, 2, 2, 1, 3, 3, 1, 4, 4, 1, 0, 0, 6);
        due("the last of five", five.weight(4, 0), 6);
        due("beside the last of five", five.weight(5, 1), 0);
        due("beside none", proved(1, 4).weight(0, 1), 0);
    }

    private static void lineEdges() {
        sentence("Promise 11: Up, down of SQUARE i's LINE at X k (0 / 1: it has none). BAD: 0");
        SquareSums x = threeSquares();
        due("the first at X 0", x.line(0, 0, 0), -1);
        due("its down", x.line(0, 0, 1), 2);
        due("the first at X 2", x.line(0, 2, 0), 3);
        due("its down", x.line(0, 2, 1), 4);
        due("the last at X 0, its PIVOT", x.line(2, 0, 0), 1);
        due("its down", x.line(2, 0, 1), 1);
        due("the last at X 2: it has none", x.line(2, 2, 0), 0);
        due("its down", x.line(2, 2, 1), 1);
        for (int bad : new int[] {-1, 3, 4, 5, MOST, FEWEST}) {
            due("SQUARE " + bad, x.line(bad, 1, 1), 0);
            due("X " + bad, x.line(0, bad, 1), 0);
            due("X " + bad + " of the last", x.line(2, bad, 1), 0);
        }
        for (int bad : new int[] {-1, 2, MOST, FEWEST}) {
            due("part " + bad, x.line(0, 0, bad), 0);
        }
        SquareSums four = proved(1, 4, 4, 4, 2, 0, 4, 2, 0, 0, 1);
        due("X 4 of four", four.line(0, 4, 1), 1);
        due("X 5 of four", four.line(0, 5, 1), 0);
    }

    private static void pointEdges() {
        sentence("Promise 12: Up, down of X k (1 .. n) of THE POINT. BAD, no POINT: 0");
        for (int n = 1; n <= 4; n++) {
            SquareSums x = proved(0, n, 0, 0, -1);
            due("X 0 of " + n, x.point(0, 1), 0);
            due("X -1 of " + n, x.point(-1, 1), 0);
            for (int k = 1; k <= n; k++) {
                due("up of X " + k + " of " + n, x.point(k, 0), 0);
                due("down of X " + k + " of " + n, x.point(k, 1), 1);
                due("part 2", x.point(k, 2), 0);
                due("part -1", x.point(k, -1), 0);
            }
            due("X n + 1 of " + n, x.point(n + 1, 1), 0);
            due("the greatest int", x.point(MOST, 1), 0);
            due("the least int", x.point(FEWEST, 1), 0);
            due("the greatest part", x.point(1, MOST), 0);
            due("the least part", x.point(1, FEWEST), 0);
        }
        dueNoPoint(new SquareSums());
        dueNoPoint(threeSquares());
        dueNoPoint(unsettled());
    }

    private static long bits(double d) {
        return Double.doubleToLongBits(d);
    }

    private static void nearEdges() {
        sentence("Promise 13: BITS of a WEIGHT's up by its down, as doubles. BAD: 0");
        SquareSums x = threeSquares();
        due("the first", x.near(0), bits(2.0));
        due("the second", x.near(1), bits(31.0 / 8.0));
        due("the last", x.near(2), bits(259.0 / 31.0));
        for (int bad : new int[] {-1, 3, 4, 5, MOST, FEWEST}) {
            due("near(" + bad + ")", x.near(bad), 0);
        }
        long[][] planted = {{0, 1}, {0, -5}, {1, GREATEST}, {-1, GREATEST}, {GREATEST, 1}, {-GREATEST, 1},
            {GREATEST, GREATEST - 1}, {1, 3}, {-1, 3}, {(1L << 53) + 1, 1}, {(1L << 53) + 3, 1}, {(1L << 54) - 1, 1}, {1, 1L << 62},
            {(1L << 62) - 1, (1L << 62) + 1}};
        for (long[] p : planted) {
            due("plant", x.plant(1, p[0], p[1]), 0);
            due("near of " + p[0] + " / " + p[1], x.near(1), bits((double) x.weight(1, 0) / (double) x.weight(1, 1)));
        }
        due("plant(1, 0, -5)", x.plant(1, 0, -5), 0);
        due("near of 0, which is not -0", x.near(1), 0);
    }

    private static void plantByZero() {
        sentence("Promise 14: BAD: also down is 0");
        SquareSums x = threeSquares();
        due("down -1", x.plant(0, 7, -1), 0);
        dueSquare(x, 0, -7, 1);
        due("down 0", x.plant(0, 5, 0), BAD);
        due("0 / 0", x.plant(0, 0, 0), BAD);
        dueSquare(x, 0, -7, 1);
        due("down 1", x.plant(0, 7, 1), 0);
        dueSquare(x, 0, 7, 1);
        for (int bad : new int[] {-1, 3, 4, 5, MOST, FEWEST}) {
            due("SQUARE " + bad, x.plant(bad, 1, 1), BAD);
        }
        due("the last", x.plant(2, 1, 1), 0);
    }

    private static void plantLong() {
        sentence("Promise 14: LONG");
        SquareSums x = threeSquares();
        due("the greatest", x.plant(0, GREATEST, 1), 0);
        dueSquare(x, 0, GREATEST, 1);
        due("by the greatest", x.plant(0, 1, GREATEST), 0);
        dueSquare(x, 0, 1, GREATEST);
        due("the greatest by itself", x.plant(0, GREATEST, GREATEST), 0);
        dueSquare(x, 0, 1, 1);
        due("the least and 1", x.plant(0, LEAST + 1, 1), 0);
        dueSquare(x, 0, -GREATEST, 1);
        due("by the least and 1", x.plant(0, -1, LEAST + 1), 0);
        dueSquare(x, 0, 1, GREATEST);
        due("the least", x.plant(0, LEAST, 1), LONG);
        due("by the least", x.plant(0, 1, LEAST), LONG);
        due("the least by 2", x.plant(0, LEAST, 2), LONG);
        due("the least by itself", x.plant(0, LEAST, LEAST), LONG);
        due("0 by the least", x.plant(0, 0, LEAST), LONG);
        dueSquare(x, 0, 1, GREATEST);
    }

    private static void checkState() {
        sentence("Promise 15: STATE: the latest prove(), under() did not answer 1");
        due("check() of a new object", new SquareSums().check(), STATE);
        due("check() after 0", proved(0, 1, 1, 1, -1).check(), STATE);
        due("check() after 2", unsettled().check(), STATE);
        due("check() after 1", threeSquares().check(), 1);
        SquareSums x = of(1, 1, 1, 1);
        make(x, 0, 1, 1, 0, 0, -4);
        make(x, 0, 1, 1, 0, 0, -4);
        x.prove(0);
        due("prove(9), refused", x.prove(9), BAD);
        due("check() still", x.check(), 1);
        due("under that answers 2", x.under(1, 2, 1), 2);
        due("check() after it", x.check(), STATE);
        due("under that answers 1", x.under(1, 2, 2), 1);
        due("check() of no SQUARES", x.check(), 1);
    }

    private static void checkSpoilt() {
        sentence("Promise 15: 1: it is the MATRIX that was proved (as it was then), 0: it is not");
        SquareSums x = threeSquares();
        for (int i = 0; i < 3; i++) {
            long up = x.weight(i, 0);
            long down = x.weight(i, 1);
            x.plant(i, up + 1, down);
            due("a WEIGHT with more, SQUARE " + i, x.check(), 0);
            x.plant(i, up - 1, down);
            due("a WEIGHT with less", x.check(), 0);
            x.plant(i, -up, down);
            due("a WEIGHT below 0", x.check(), 0);
            x.plant(i, 3 * up, 3 * down);
            due("the WEIGHT as it was", x.check(), 1);
        }
        x.term(0, 1, 1, 50);
        due("check() after term()", x.check(), 1);
        x.plant(0, 50, 1);
        due("a WEIGHT as the FORM now is", x.check(), 0);
        SquareSums y = of(1, 1, 1, 1, 0, 0, -1);
        make(y, 0, 1, 1, 0, 0, -1);
        due("under by 2 / 1", y.under(0, 1, 3), 1);
        y.term(1, 0, 1, 9);
        due("check() of GOAL less the CONDITION, as they were", y.check(), 1);
    }

    private static void checkTooLong() {
        sentence("Promise 15: 2: something is TOO LONG, wherever it is");
        int[] rows = {1, 1, 1, 1, 2, 14, 2, 2, 49, 0, 0, 3};
        SquareSums x = proved(1, 2, rows);
        x.plant(0, GREATEST / 49, 1);
        due("all fit, but are not the MATRIX's", x.check(), 0);
        x.plant(0, GREATEST / 49 + 1, 1);
        due("2 2 is TOO LONG, behind others that are not the MATRIX's", x.check(), 2);
        x.plant(1, 4, 1);
        due("0 0, ahead of it, is not the MATRIX's, too", x.check(), 2);
        x.plant(0, 1, 1);
        due("0 0 alone is not", x.check(), 0);
        x.plant(1, 3, 1);
        due("all are", x.check(), 1);
    }

    private static void equalAnswers() {
        sentence("Promise 16: X 0 is LEFT at the end: 1, and THE POINT is there then; else 0");
        SquareSums x = proved(1, 1, 1, 1, 4, 0, 1, 4, 0, 0, 1);
        dueNoPoint(x);
        due("equal(), X 0 is LEFT", x.equal(), 1);
        duePoint(x, -1, 2);
        due("equal() again", x.equal(), 1);
        duePoint(x, -1, 2);
        x.term(0, 0, 0, 2);
        due("equal() of what was proved", x.equal(), 1);
        x.prove(0);
        dueNoPoint(x);
        due("equal(), X 0 is a PIVOT", x.equal(), 0);
        dueNoPoint(x);
        x.term(0, 0, 0, 0);
        x.prove(0);
        due("equal() by 0", x.equal(), STATE);
        duePoint(x, -1, 2);
        SquareSums none = proved(1, 4);
        due("equal() of 0", none.equal(), 1);
        duePoint(none, 0, 1, 0, 1, 0, 1, 0, 1);
        SquareSums planted = proved(1, 1, 1, 1, 4, 0, 1, 4, 0, 0, 1);
        planted.plant(0, 0, 1);
        due("equal() with a WEIGHT planted", planted.equal(), 1);
        duePoint(planted, -1, 2);
    }

    private static void equalTooLong() {
        sentence("Promise 16: 2: something is TOO LONG (no POINT, as by 0)");
        SquareSums fits = proved(1, 3, 0, 0, 10537, 0, 1, 7922, 0, 2, 13224, 0, 3, -3040, 1, 1, 2825, 1, 2, 696,
            1, 3, -160, 2, 2, 9778, 2, 3, -4702, 3, 3, 569);
        due("equal(), all fits", fits.equal(), 1);
        duePoint(fits, -69, 53, -48776, 10123, -176344, 10123);
        SquareSums not = proved(1, 3, 0, 0, 7840, 0, 1, -2072, 0, 2, 3976, 0, 3, -6048, 1, 1, 12074, 1, 2, -8690,
            1, 3, 5242, 2, 2, 10970, 2, 3, -2618, 3, 3, 1585);
        due("equal(), it does not", not.equal(), 2);
        dueNoPoint(not);
        due("told(0) still", not.told(0), 1);
        due("weight(0, 0) still", not.weight(0, 0), 12074);
    }

    private static void equalState() {
        sentence("Promise 16: STATE: as check()");
        due("equal() of a new object", new SquareSums().equal(), STATE);
        SquareSums x = proved(0, 1, 1, 1, -1);
        due("equal() after 0", x.equal(), STATE);
        duePoint(x, 1, 1);
        due("equal() after 2", unsettled().equal(), STATE);
        due("equal() after 1", threeSquares().equal(), 0);
        SquareSums y = of(1, 1, 1, 1, 0, 0, -1);
        make(y, 0, 1, 1, 0, 0, -1);
        due("under by 2 / 1", y.under(0, 1, 3), 1);
        due("equal() after under()", y.equal(), 1);
        duePoint(y, 1, 1);
        due("under that answers 2", y.under(0, 1, 2), 2);
        dueNoPoint(y);
        due("equal() after it", y.equal(), STATE);
    }

    private static void pivotWraps() {
        sentence("Promise 17: v / d, as the machine's longs have it");
        SquareSums x = new SquareSums();
        due("the least by -1 wraps around", x.pivot(LEAST, -1), LEAST);
        due("the least and 1 by -1", x.pivot(LEAST + 1, -1), GREATEST);
        due("the greatest by -1", x.pivot(GREATEST, -1), LEAST + 1);
        due("the least by 1", x.pivot(LEAST, 1), LEAST);
        due("the least by itself", x.pivot(LEAST, LEAST), 1);
        due("the greatest by the least", x.pivot(GREATEST, LEAST), 0);
        due("the least by the greatest", x.pivot(LEAST, GREATEST), -1);
        due("7 by 2", x.pivot(7, 2), 3);
        due("-7 by 2", x.pivot(-7, 2), -3);
        due("7 by -2", x.pivot(7, -2), -3);
        due("-7 by -2", x.pivot(-7, -2), 3);
    }

    private static void pivotByZero() {
        sentence("Promise 17: LONG by 0 (.. it may be the quotient, too)");
        SquareSums x = new SquareSums();
        due("1 by 0", x.pivot(1, 0), LONG);
        due("0 by 0", x.pivot(0, 0), LONG);
        due("the least by 0", x.pivot(LEAST, 0), LONG);
        due("0 by 1", x.pivot(0, 1), 0);
        due("0 by -1", x.pivot(0, -1), 0);
        due("1 by 1", x.pivot(1, 1), 1);
        due("1 by -1", x.pivot(1, -1), -1);
        due("-30 by 1, the quotient", x.pivot(-30, 1), LONG);
        due("61 by -2, the quotient", x.pivot(61, -2), LONG);
    }

    private static void countEdges() {
        sentence("Promise 18: 0 VARIABLES, 1 FORMS, 2 proofs since variables(). BAD");
        SquareSums x = of(3, 1, 1, 1);
        make(x, 1, 1, -1);
        make(x, 1, 1, 524288, 1, 2, 1, 0, 2, 524288);
        due("count(2) at first", x.count(2), 0);
        for (int bad : new int[] {-1, 3, MOST, FEWEST}) {
            due("count(" + bad + ")", x.count(bad), BAD);
        }
        due("a proof that answers 1", x.prove(0), 1);
        due("count(2)", x.count(2), 1);
        due("one that answers 0", x.prove(1), 0);
        due("count(2)", x.count(2), 2);
        due("one that answers 2", x.prove(2), 2);
        due("count(2)", x.count(2), 3);
        due("one with a CONDITION", x.under(0, 1, 1), 1);
        due("count(2)", x.count(2), 4);
        due("one that is refused", x.prove(3), BAD);
        due("another", x.under(0, 3, 1), BAD);
        due("count(2)", x.count(2), 4);
        x.variables(9);
        due("count(2) after a refused variables()", x.count(2), 4);
        due("count(0)", x.count(0), 3);
        due("count(1)", x.count(1), 3);
        x.variables(1);
        due("count(0) after variables()", x.count(0), 1);
        due("count(1)", x.count(1), 0);
        due("count(2)", x.count(2), 0);
    }

    public static void main(String[] args) {
        newObject();
        twoObjects();
        variablesRange();
        formsThereWere();
        nothingProved();
        fewerVariables();
        thirteenthForm();
        termNumbers();
        termEitherWay();
        termIndices();
        valueRange();
        valueLargest();
        valueBad();
        plainByZero();
        plainGoesToZero();
        plainLong();
        plainBad();
        proveBad();
        underFiner();
        underBad();
        toldWithoutMultiplier();
        toldOfUnderThatIsNotOne();
        toldBadAndState();
        weightEdges();
        lineEdges();
        pointEdges();
        nearEdges();
        plantByZero();
        plantLong();
        checkState();
        checkSpoilt();
        checkTooLong();
        equalAnswers();
        equalTooLong();
        equalState();
        pivotWraps();
        pivotByZero();
        countEdges();
        end();
    }
}
