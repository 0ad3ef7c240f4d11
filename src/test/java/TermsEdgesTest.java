/** The edges that the document names under "Terms": each sentence has a test of its own. */
public final class TermsEdgesTest extends Asking {
    /** 2 to the power of 63, less 1, is 49 * 73 * 127 * 337 * 92737 * 649657. */
    private static final long GREATEST_BY_49 = GREATEST / 49;

    private static void variablesFromOneToFour() {
        sentence("n is 1 to 4; 2 at first");
        SquareSums x = new SquareSums();
        due("count(0) at first", x.count(0), 2);
        x.form();
        due("X 2 is there at first", x.term(0, 2, 2, 1), 0);
        due("X 3 is not", x.term(0, 3, 3, 1), BAD_TERM);
        due("variables(0)", x.variables(0), BAD);
        due("variables(5)", x.variables(5), BAD);
        due("count(0) still", x.count(0), 2);
        for (int n = 1; n <= 4; n++) {
            due("variables(" + n + ")", x.variables(n), 1);
            due("count(0)", x.count(0), n);
            x.form();
            due("X 0 is there", x.term(0, 0, 0, 1), 0);
            due("X n is there", x.term(0, n, n, 1), 0);
            due("X n + 1 is not", x.term(0, n + 1, n + 1, 1), BAD_TERM);
            due("X n + 1 is not, beside X n", x.term(0, n, n + 1, 1), BAD_TERM);
        }
    }

    private static void twelveForms() {
        sentence("12 at most, numbered from 0 on");
        SquareSums x = new SquareSums();
        for (int f = 0; f < 12; f++) {
            due("prove of a FORM that is not yet there", x.prove(f), BAD);
            due("form()", x.form(), f);
            due("prove of it", x.prove(f), 1);
        }
        due("form() the 13th", x.form(), FULL);
        due("form() once more", x.form(), FULL);
        due("count(1)", x.count(1), 12);
        due("prove(11)", x.prove(11), 1);
        due("prove(12)", x.prove(12), BAD);
        due("prove(-1)", x.prove(-1), BAD);
    }

    private static void numbersZeroAtFirst() {
        sentence("all v 0 at first");
        SquareSums x = of(4);
        for (int i = 0; i <= 4; i++) {
            for (int j = i; j <= 4; j++) {
                due("v " + i + " " + j, x.term(0, i, j, 1000 + i + j), 0);
            }
        }
        x.variables(4);
        x.form();
        for (int i = 0; i <= 4; i++) {
            for (int j = i; j <= 4; j++) {
                due("v " + i + " " + j + " of a FORM in the place of another", x.term(0, j, i, 1), 0);
            }
        }
    }

    /** What check() says of a FORM with one SQUARE, its WEIGHT planted. */
    private static void dueOfProduct(int v11, int v12, int v22, long up, long down, int check) {
        SquareSums x = proved(1, 2, 1, 1, v11, 1, 2, v12, 2, 2, v22);
        due("told(1)", x.told(1), 1);
        due("plant(0, " + up + ", " + down + ")", x.plant(0, up, down), 0);
        due("check() of " + up + " / " + down, x.check(), check);
    }

    private static void productsOfUps() {
        sentence("one of these products does not fit in a long, or is the least long (a * c)");
        dueOfProduct(1, 4, 4, (1L << 61) - 1, 1, 0);
        dueOfProduct(1, 4, 4, 1L << 61, 1, 2);
        dueOfProduct(1, 4, 4, 1 - (1L << 61), 1, 0);
        dueOfProduct(1, 4, 4, -(1L << 61), 1, 2);
        dueOfProduct(1, 14, 49, GREATEST_BY_49, 1, 0);
        dueOfProduct(1, 14, 49, GREATEST_BY_49 + 1, 1, 2);
        dueOfProduct(1, 14, 49, -GREATEST_BY_49, 1, 0);
        dueOfProduct(1, 14, 49, -GREATEST_BY_49 - 1, 1, 2);
        dueOfProduct(1, -14, 49, GREATEST_BY_49, 1, 0);
        dueOfProduct(1, -14, 49, GREATEST_BY_49 + 1, 1, 2);
        dueOfProduct(1, 2, 1, GREATEST, 1, 0);
        dueOfProduct(1, 2, 1, -GREATEST, 1, 0);
    }

    private static void productsOfDowns() {
        sentence("one of these products does not fit in a long (b * d)");
        dueOfProduct(4, 4, 1, 1, (1L << 61) - 1, 0);
        dueOfProduct(4, 4, 1, 1, 1L << 61, 2);
        dueOfProduct(4, 4, 1, 1, 1 - (1L << 61), 0);
        dueOfProduct(4, 4, 1, 1, -(1L << 61), 2);
        dueOfProduct(49, 14, 1, 1, GREATEST_BY_49, 0);
        dueOfProduct(49, 14, 1, 1, GREATEST_BY_49 + 1, 2);
        dueOfProduct(4, -4, 1, -1, (1L << 61) - 1, 0);
        dueOfProduct(4, -4, 1, -1, 1L << 61, 2);
    }

    private static void productsAheadOfLowestTerms() {
        sentence("one of these products does not fit, though lowest terms would");
        dueOfProduct(1, 4, 4, (1L << 62) - 1, 2, 0);
        dueOfProduct(1, 4, 4, (1L << 62) + 1, 2, 2);
        dueOfProduct(1, 4, 4, 1 - (1L << 62), 2, 0);
        dueOfProduct(1, 4, 4, -(1L << 62) - 1, 2, 2);
    }

    /** What check() says of two SQUARES that have X 0 both, their WEIGHTS planted. */
    private static void dueOfSum(long up, long down, long secondUp, long secondDown, int check) {
        SquareSums x = proved(1, 2, 1, 1, 1, 2, 2, 1, 0, 1, 2, 0, 2, 2, 0, 0, 2);
        due("told(1)", x.told(1), 2);
        due("plant(0, ..)", x.plant(0, up, down), 0);
        due("plant(1, ..)", x.plant(1, secondUp, secondDown), 0);
        String both = up + " / " + down + " and " + secondUp + " / " + secondDown;
        due("check() of " + both, x.check(), check);
    }

    private static void sums() {
        sentence("one of these sums does not fit in a long, or is the least long");
        dueOfSum(1, 1, 1, 1, 1);
        dueOfSum(GREATEST - 1, 1, 1, 1, 0);
        dueOfSum(GREATEST - 1, 1, 2, 1, 2);
        dueOfSum(1, 1, GREATEST - 1, 1, 0);
        dueOfSum(2, 1, GREATEST - 1, 1, 2);
        dueOfSum(1 - GREATEST, 1, -1, 1, 0);
        dueOfSum(1 - GREATEST, 1, -2, 1, 2);
        dueOfSum(-1, 1, 1 - GREATEST, 1, 0);
        dueOfSum(-2, 1, 1 - GREATEST, 1, 2);
        dueOfSum(-GREATEST, 1, -GREATEST, 1, 2);
        dueOfSum(GREATEST, 1, -GREATEST, 1, 0);
    }

    private static void productsOfSums() {
        sentence("one of a sum's products does not fit in a long, or is the least long, though the sum would");
        long half = 1L << 62;
        dueOfSum(half - 1, 1, -GREATEST, 2, 0);
        dueOfSum(half, 1, -GREATEST, 2, 2);
        dueOfSum(1 - half, 1, GREATEST, 2, 0);
        dueOfSum(-half, 1, GREATEST, 2, 2);
        dueOfSum(-GREATEST, 2, half - 1, 1, 0);
        dueOfSum(-GREATEST, 2, half, 1, 2);
        dueOfSum(GREATEST, 2, 1 - half, 1, 0);
        dueOfSum(GREATEST, 2, -half, 1, 2);
        dueOfSum(1, 153092023L, 1, 60247241209L, 0);
        dueOfSum(1, 153092023L, 1, 60247241210L, 2);
        dueOfSum(1, 1L << 31, 1, 1L << 31, 0);
        dueOfSum(1, 1L << 31, 1, (1L << 32) - 1, 0);
        dueOfSum(1, 1L << 31, 1, 1L << 32, 2);
        dueOfSum(1, 1L << 32, 1, 1L << 31, 2);
    }

    private static void differences() {
        sentence("one of these differences does not fit in a long, or is the least long");
        due("plain, 2 to the power of 63, less 1", of(3, 1, 1, 13577, 2, 2, 7417, 3, 3, -1,
            0, 1, 11370, 0, 2, 3756, 0, 3, 605282, 0, 0, 446419).plain(0), 3);
        due("plain, 2 to the power of 63", of(3, 1, 1, 7937, 2, 2, 6163, 3, 3, -1,
            0, 1, 4712, 0, 2, 3614, 0, 3, 868460, 0, 0, 665319).plain(0), LONG);
        due("plain, the least long and 1", of(3, 1, 1, 5519, 2, 2, 7649, 3, 3, 1,
            0, 1, 3372, 0, 2, 3726, 0, 3, 934850, 0, 0, -400707).plain(0), 3);
        due("plain, the least long", of(3, 1, 1, 15601, 2, 2, 16183, 3, 3, 1,
            0, 1, 2374, 0, 2, 8368, 0, 3, 382268, 0, 0, -197219).plain(0), LONG);
    }

    private static void productsOfDifferences() {
        sentence("one of a difference's products does not fit, or is the least long, though the difference would");
        due("plain, a * d is 2 to the power of 63, less 2097152", of(3, 1, 1, 18397, 2, 2, 8447, 3, 3, 524288,
            0, 1, 16560, 0, 2, 6514, 0, 3, 1, 0, 0, 33284).plain(0), 4);
        due("plain, a * d is 2 to the power of 63", of(3, 1, 1, 3389, 2, 2, 17041, 3, 3, 524288,
            0, 1, 3150, 0, 2, 15958, 0, 3, 1, 0, 0, 80622).plain(0), LONG);
        due("plain, a * d is the least long and 2097152", of(3, 1, 1, 7457, 2, 2, 17569, 3, 3, -524288,
            0, 1, 716, 0, 2, 2012, 0, 3, 1, 0, 0, -33495).plain(0), 2);
        due("plain, a * d is the least long", of(3, 1, 1, 8263, 2, 2, 3617, 3, 3, -524288,
            0, 1, 1780, 0, 2, 952, 0, 3, 1, 0, 0, -146996).plain(0), LONG);
    }

    /** The downs of X 1 .. X 4 are such that b * d in the last difference is the greatest long. */
    private static SquareSums ofDowns(int v44, int v00) {
        return of(4, 1, 1, 454279, 2, 2, 337, 3, 3, 92737, 4, 4, v44,
            0, 1, 2, 0, 2, 2, 0, 3, 2, 0, 4, 2, 0, 0, v00);
    }

    private static void downsOfDifferences() {
        sentence("a difference's b * d does not fit in a long");
        SquareSums fits = ofDowns(649657, 1);
        due("prove, b * d is the greatest long", fits.prove(0), 1);
        dueSquare(fits, 4, 9195869022445982001L, GREATEST, 1, 1, 0, 1, 0, 1, 0, 1, 0, 1);
        due("plain of it", fits.plain(0), 5);
        due("check(), which is TOO LONG though nothing is spoilt", fits.check(), 2);
        due("plain with X 0 below", ofDowns(649657, 0).plain(0), 4);
        SquareSums not = ofDowns(649658, 1);
        due("prove, b * d is more", not.prove(0), 2);
        due("plain of it", not.plain(0), LONG);
        due("plain with X 0 below", ofDowns(649658, 0).plain(0), LONG);
    }

    /** X 4 has the greatest long (or that below 0) as its up when its turn comes. */
    private static SquareSums ofLongPivot(boolean above, int v04, int v00) {
        return above
            ? of(4, 1, 1, 9067, 2, 2, 7877, 3, 3, -1, 1, 4, 756, 2, 4, 2492, 3, 4, 718724, 4, 4, 286389,
                0, 4, v04, 0, 0, v00)
            : of(4, 1, 1, 15737, 2, 2, 8669, 3, 3, 1, 1, 4, 14886, 2, 4, 4286, 3, 4, 520030, 4, 4, -303196,
                0, 4, v04, 0, 0, v00);
    }

    private static void quotients() {
        sentence("one of a quotient's products does not fit in a long (b * c)");
        due("plain, b * c is the greatest long", ofLongPivot(true, 2, 0).plain(0), 3);
        due("plain, and X 0 is above 0", ofLongPivot(true, 2, 1).plain(0), 4);
        due("plain, b * c is twice as much", ofLongPivot(true, 1, 0).plain(0), LONG);
        due("plain, the quotient fits, but not X 0's difference", ofLongPivot(true, 2, 2).plain(0), LONG);
        due("plain, b * c is the least long and 1", ofLongPivot(false, 2, 0).plain(0), 4);
        due("plain, b * c is twice as much below 0", ofLongPivot(false, 1, 0).plain(0), LONG);
    }

    private static void negativeByOneIndex() {
        sentence("if there are LEFT k with M k k below 0: NEGATIVE, by the first such k");
        proved(1, 1, 1, 1, 1);
        proved(1, 1);
        duePoint(proved(0, 1, 1, 1, -1), 1, 1);
        due("SQUARES, M 2 2 goes to 0", proved(1, 2, 1, 1, 500000, 1, 2, 1000000, 2, 2, 500000).told(1), 1);
        due("SQUARES, it stays above 0", proved(1, 2, 1, 1, 500000, 1, 2, 1000000, 2, 2, 500001).told(1), 2);
        duePoint(proved(0, 2, 1, 1, 500000, 1, 2, 1000000, 2, 2, 499999), -1, 1, 1, 1);
        duePoint(proved(0, 2, 1, 1, -1, 2, 2, -1, 0, 0, -1), 1, 1, 0, 1);
        duePoint(proved(0, 2, 2, 2, -1, 0, 0, -1), 0, 1, 1, 1);
        duePoint(proved(0, 2, 0, 0, -1), 0, 1, 0, 1);
    }

    private static void negativeAheadOfPivot() {
        sentence("Else, if there are such with M k k above 0: the first is a PIVOT");
        duePoint(proved(0, 2, 1, 1, 1, 1, 2, 2, 2, 2, -1), 0, 1, 1, 1);
        duePoint(proved(0, 2, 1, 1, 1, 1, 2, 2, 0, 0, -1), 0, 1, 0, 1);
        SquareSums x = proved(1, 2, 2, 2, 4, 0, 2, 4, 0, 0, 5);
        dueSquare(x, 0, 4, 1, 1, 2, 0, 1, 1, 1);
        dueSquare(x, 1, 4, 1, 1, 1, 0, 1, 0, 1);
        due("SQUARES", x.told(1), 2);
    }

    private static void negativeByPair() {
        sentence("if there are LEFT i, j (i ahead of j) with M i j not 0: NEGATIVE, by the first such pair");
        due("SQUARES of 0", proved(1, 3).told(1), 0);
        duePoint(proved(0, 3, 1, 2, 1, 1, 3, 1, 2, 3, 1), 1, 1, -1, 1, 0, 1);
        duePoint(proved(0, 3, 1, 3, 1, 2, 3, 1, 0, 1, 1), 2, 1, 0, 1, -2, 1);
        duePoint(proved(0, 3, 0, 1, 1, 2, 3, 1), -1, 1, 0, 1, 0, 1);
        duePoint(proved(0, 3, 2, 3, 1, 0, 2, 1), 0, 1, 2, 1, -2, 1);
        duePoint(proved(0, 3, 0, 2, 1, 0, 3, 1), 0, 1, -1, 1, 0, 1);
        duePoint(proved(0, 3, 0, 3, 1), 0, 1, 0, 1, -1, 1);
    }

    private static void pairBehindPivots() {
        sentence("Else .. NEGATIVE, by the first such pair; else it is DONE");
        due("SQUARES", proved(1, 3, 1, 1, 1, 2, 2, 1, 3, 3, 1, 1, 2, 2, 1, 3, 2, 2, 3, 2).told(1), 1);
        duePoint(proved(0, 3, 1, 1, 1, 2, 2, 1, 3, 3, 1, 1, 2, 2, 1, 3, 2, 2, 3, 3), 0, 1, 1, 1, -1, 1);
        duePoint(proved(0, 3, 1, 1, 1, 2, 2, 1, 3, 3, 1, 1, 2, 2, 1, 3, 2, 2, 3, 1), -2, 1, 1, 1, 1, 1);
        duePoint(proved(0, 3, 2, 2, 1, 1, 3, 1), 1, 1, 0, 1, -1, 1);
    }

    private static void pairByItsSign() {
        sentence("V i 1, V j 1 (-1, if M i j is above 0)");
        duePoint(proved(0, 2, 1, 2, 1), 1, 1, -1, 1);
        duePoint(proved(0, 2, 1, 2, -1), 1, 1, 1, 1);
        duePoint(proved(0, 1, 0, 1, 1), -1, 1);
        duePoint(proved(0, 1, 0, 1, -1), 1, 1);
    }

    private static void pointByV0() {
        sentence("if V 0 is not 0: X i is V i / V 0. Else t V i");
        duePoint(proved(0, 1, 0, 1, 1, 0, 0, 5), -10, 1);
        duePoint(proved(0, 1, 0, 1, -1, 0, 0, 5), 10, 1);
        duePoint(proved(0, 1, 1, 1, 3, 0, 1, 4, 0, 0, 1), -2, 3);
        duePoint(proved(0, 2, 1, 2, 1, 0, 0, 5), 4, 1, -4, 1);
    }

    private static void firstT() {
        sentence("the first t of 1, 2, 4, .. at which the FORM is below 0");
        duePoint(proved(0, 1, 1, 1, -2, 0, 0, 1), 1, 1);
        duePoint(proved(0, 1, 1, 1, -1, 0, 0, 1), 2, 1);
        duePoint(proved(0, 1, 1, 1, -1, 0, 0, 3), 2, 1);
        duePoint(proved(0, 1, 1, 1, -1, 0, 0, 4), 4, 1);
        duePoint(proved(0, 1, 1, 1, -1, 0, 0, 1000000), 1024, 1);
        duePoint(proved(0, 1, 1, 1, -1, 0, 1, 1000000), 1048576, 1);
    }

    private static void lastT() {
        sentence("2 to the power of 40");
        duePoint(proved(0, 2, 1, 1, 524288, 1, 2, 1, 0, 2, 262143), -524288, 1, 549755813888L, 1);
        duePoint(proved(0, 2, 1, 1, 524288, 1, 2, 1, 0, 2, 262144), -1048576, 1, 1099511627776L, 1);
        duePoint(proved(0, 2, 1, 1, 524288, 1, 2, 1, 0, 2, 524287), -1048576, 1, 1099511627776L, 1);
    }

    private static void noTFound() {
        sentence("(or no t was found)");
        SquareSums none = proved(2, 2, 1, 1, 524288, 1, 2, 1, 0, 2, 524288);
        dueNoSquares(none);
        dueNoPoint(none);
        dueTold(none, 2, 0, 0, -1, 0, 1, 0);
        dueNoPoint(proved(2, 2, 1, 1, 524288, 1, 2, 1, 0, 2, 1000000));
    }

    private static void tooLongAtSomeT() {
        sentence("something is TOO LONG: the FORM at t");
        duePoint(proved(0, 2, 1, 1, 262144, 1, 2, 524287, 2, 2, 262143, 0, 2, 1), -2097148, 1, 2097152, 1);
        duePoint(proved(0, 2, 1, 1, 262144, 1, 2, 524287, 2, 2, 262143, 0, 2, 3), -4194296, 1, 4194304, 1);
        dueNoPoint(proved(2, 2, 1, 1, 262144, 1, 2, 524287, 2, 2, 262143, 0, 2, 4));
        duePoint(proved(0, 2, 0, 0, 41616, 0, 1, 104448, 0, 2, 19584, 1, 1, 65535, 1, 2, 24576, 2, 2, 2304),
            -8388608, 21845, 2048, 1);
        duePoint(proved(0, 2, 1, 1, 68644, 1, 2, -1, 0, 0, 491402, 0, 2, 122), 4194304, 17161, 33554432, 1);
        dueNoPoint(proved(2, 2, 1, 1, 68644, 1, 2, -1, 0, 0, 491402, 0, 2, 123));
        dueNoPoint(proved(2, 3, 0, 0, 757, 0, 1, 1404, 0, 2, 736, 0, 3, -722, 1, 1, 729, 1, 2, 1026,
            1, 3, -919, 2, 2, 557, 2, 3, -898, 3, 3, 370));
    }

    private static void tooLongInElimination() {
        sentence("something is TOO LONG: ELIMINATION");
        duePoint(proved(0, 3, 0, 0, 5701, 0, 1, -30, 0, 2, 13042, 1, 1, 9217, 1, 2, -90, 1, 3, -10752,
            2, 2, 8265, 3, 3, 3136), -5649, 208, -2923, 3120, -2421, 52);
        SquareSums x = proved(2, 2, 0, 0, 107680, 0, 1, 106248, 0, 2, 99080, 1, 1, 54288, 1, 2, -40076, 2, 2, 93245);
        dueNoSquares(x);
        dueNoPoint(x);
    }

    private static void tooLongInWitness() {
        sentence("something is TOO LONG: a WITNESS, or THE POINT by it");
        SquareSums x = proved(2, 3, 0, 0, 6400, 0, 3, -8800, 1, 1, 8100, 1, 2, -2160, 1, 3, -9361,
            2, 2, 1665, 2, 3, 11622, 3, 3, 23418);
        dueNoSquares(x);
        dueNoPoint(x);
        SquareSums y = proved(2, 2, 0, 0, 70933, 0, 1, -91997, 0, 2, -48832, 1, 1, 44521, 1, 2, 47264, 2, 2, 12544);
        dueNoSquares(y);
        dueNoPoint(y);
    }

    private static void whatThereIsByAnswers() {
        sentence("By 0 there are no SQUARES, by 1 no POINT (but by equal()), by 2 neither");
        SquareSums x = of(2, 1, 1, 4, 0, 1, 4, 0, 0, 1);
        make(x, 1, 1, 4, 0, 1, 4, 0, 0, 0);
        make(x, 1, 1, 524288, 1, 2, 1, 0, 2, 524288);
        due("prove(0)", x.prove(0), 1);
        dueSquare(x, 0, 4, 1, 1, 2, 1, 1, 0, 1);
        dueNoPoint(x);
        due("equal()", x.equal(), 1);
        duePoint(x, -1, 2, 0, 1);
        dueSquare(x, 0, 4, 1, 1, 2, 1, 1, 0, 1);
        due("prove(1)", x.prove(1), 0);
        dueNoSquares(x);
        duePoint(x, -1, 2, 0, 1);
        due("prove(0) again", x.prove(0), 1);
        dueNoPoint(x);
        due("prove(1) again", x.prove(1), 0);
        due("prove(2)", x.prove(2), 2);
        dueNoSquares(x);
        dueNoPoint(x);
        due("prove(0) once more", x.prove(0), 1);
        due("equal()", x.equal(), 1);
        due("prove(2) behind a POINT of equal()", x.prove(2), 2);
        dueNoSquares(x);
        dueNoPoint(x);
    }

    private static void nothingCarriedOver() {
        sentence("A WITNESS is that of its own proof: of LEFT ones 0, but V k 1; or V i 1, V j 1");
        SquareSums x = proved(0, 2, 1, 2, 1);
        make(x, 1, 1, -1);
        make(x, 2, 2, -1);
        make(x, 1, 1, 1, 2, 2, 1, 0, 0, 1, 1, 2, 2, 0, 1, 2, 0, 2, 2);
        duePoint(x, 1, 1, -1, 1);
        due("prove by one index, behind a pair", x.prove(1), 0);
        duePoint(x, 1, 1, 0, 1);
        due("prove by another", x.prove(2), 0);
        duePoint(x, 0, 1, 1, 1);
        due("prove that is DONE, X 2 is LEFT", x.prove(3), 1);
        due("equal()", x.equal(), 1);
        duePoint(x, -1, 1, 0, 1);
        due("prove by a pair again", x.prove(0), 0);
        duePoint(x, 1, 1, -1, 1);
    }

    private static void multipliersByFiner() {
        sentence("if p and q have 1 as greatest common divisor (0 and 1 have, 0 and others not)");
        int[] tried = {1, 2, 4, 6, 10, 12, 18, 22, 28, 32, 42, 46, 58, 64, 72, 80, 96, 102, 120, 128};
        for (int finer = 1; finer <= 20; finer++) {
            SquareSums x = of(1, 0, 0, -1);
            make(x);
            due("under with FINER " + finer, x.under(0, 1, finer), 0);
            due("told(6) with FINER " + finer, x.told(6), tried[finer - 1]);
        }
    }

    private static int commonDivisor(int a, int b) {
        return b == 0 ? a : commonDivisor(b, a % b);
    }

    private static void multipliersInOrder() {
        sentence("MULTIPLIERS p / q for s = 1, 2, .. FINER, for q = 1 .. s, p being s - q");
        int place = 0;
        for (int s = 1; s <= 20; s++) {
            SquareSums x = of(1);
            make(x);
            for (int q = 1; q <= s; q++) {
                int p = s - q;
                if (commonDivisor(p, q) != 1) {
                    continue;
                }
                place++;
                x.term(0, 0, 1, 3 * p);
                x.term(1, 0, 1, 3 * q);
                if (s > 1) {
                    due("under by " + p + " / " + q + ", FINER too small", x.under(0, 1, s - 1), 2);
                }
                due("under by " + p + " / " + q, x.under(0, 1, s), 1);
                dueTold(x, 1, 0, 0, 1, p, q, place);
            }
        }
    }

    private static final int[] LONG_FORM = {1, 1, 999983, 1, 2, 999979, 2, 2, 999961, 1, 3, 999959, 3, 3, 999953,
        2, 3, 999931, 1, 4, 999917, 4, 4, 999907, 2, 4, 999883, 3, 4, 999863, 0, 0, 1};

    private static void tooLongPassedOver() {
        sentence("TOO LONG: passed over");
        SquareSums x = proved(2, 4, LONG_FORM);
        make(x, LONG_FORM);
        x.term(1, 1, 1, 999982);
        make(x);
        due("under, 0 / 1 is TOO LONG, 1 / 1 is DONE", x.under(0, 1, 2), 1);
        dueTold(x, 1, 1, 0, 1, 1, 1, 2);
        dueSquare(x, 0, 1, 1, 0, 1, 1, 1, 0, 1, 0, 1, 0, 1);
        due("check()", x.check(), 1);
        due("under, 0 / 1 alone", x.under(0, 1, 1), 2);
        dueTold(x, 2, 0, 0, 1, 0, 1, 1);
        due("under, all are TOO LONG", x.under(0, 2, 20), 2);
        dueTold(x, 2, 0, 0, 2, 0, 1, 128);
        dueNoPoint(x);
        SquareSums y = proved(2, 2, 1, 1, 462137, 2, 2, 666101, 0, 0, 756301, 1, 2, 500766, 0, 1, -501642, 0, 2, 963848);
        make(y);
        due("under, all are TOO LONG, but there is a point", y.under(0, 1, 20), 0);
        duePoint(y, 1, 1, -1, 1);
    }

    private static void pointsFromMinusThreeToThree() {
        sentence("whole X from -3 to 3");
        for (int n = 1; n <= 4; n++) {
            for (int sign = -1; sign <= 1; sign += 2) {
                SquareSums x = of(n);
                make(x);
                for (int k = 1; k <= n; k++) {
                    x.term(0, 0, k, sign);
                }
                x.term(0, 0, 0, 3 * n - 1);
                due("under, below at 3 or -3 alone", x.under(0, 1, 1), 0);
                for (int k = 1; k <= n; k++) {
                    due("point(" + k + ", 0)", x.point(k, 0), -3 * sign);
                    due("point(" + k + ", 1)", x.point(k, 1), 1);
                }
                x.term(0, 0, 0, 3 * n);
                due("under, below from 4 or -4 on", x.under(0, 1, 1), 2);
                dueNoPoint(x);
            }
        }
    }

    private static void pointsInOrder() {
        sentence("(X 1 from -3 on, for each X 2 from -3 on, ..)");
        SquareSums x = of(4, 1, 1, -1, 2, 2, -1, 3, 3, -1, 4, 4, -1, 0, 0, 26);
        make(x);
        due("under, the first of all", x.under(0, 1, 1), 0);
        duePoint(x, -3, 1, -3, 1, -3, 1, -3, 1);
        make(x, 0, 4, 1);
        due("under, X 4 goes on first", x.under(0, 2, 1), 0);
        duePoint(x, -3, 1, -3, 1, -3, 1, 0, 1);
        make(x, 0, 3, 1, 0, 4, -10, 0, 0, -30);
        due("under, X 3 goes on behind X 4", x.under(0, 3, 1), 0);
        duePoint(x, -3, 1, -3, 1, 0, 1, -3, 1);
        make(x, 0, 1, 1);
        due("under, X 1 goes on last", x.under(0, 4, 1), 0);
        duePoint(x, 0, 1, -3, 1, -3, 1, -3, 1);
    }

    private static void conditionAndGoalAtPoints() {
        sentence("where the CONDITION is not below 0, and the GOAL is");
        SquareSums x = of(1, 1, 1, -1, 0, 0, 8);
        make(x, 0, 1, 1, 0, 0, 3);
        make(x, 0, 1, 1, 0, 0, 2);
        make(x, 0, 1, 1, 0, 0, -4);
        make(x, 1, 1, -1, 0, 0, 9);
        make(x, 0, 0, -1);
        make(x);
        due("under, the CONDITION is 0 at -3", x.under(0, 1, 20), 0);
        duePoint(x, -3, 1);
        due("under, the CONDITION is below 0 at -3, but not at 3", x.under(0, 2, 20), 0);
        duePoint(x, 3, 1);
        due("under, the CONDITION is below 0 at both", x.under(0, 3, 20), 2);
        due("under, the GOAL is 0 at 3 and -3", x.under(4, 1, 20), 2);
        due("under, the CONDITION is -1", x.under(0, 5, 20), 2);
        due("under, the CONDITION is 0", x.under(0, 6, 20), 0);
        duePoint(x, -3, 1);
    }

    private static void firstRefusal() {
        sentence("Of several refusals the first one here: BAD .., STATE, FULL");
        SquareSums x = new SquareSums();
        due("told(-1), and there was none", x.told(-1), BAD);
        due("told(7), and there was none", x.told(7), BAD);
        due("told(0), there was none", x.told(0), STATE);
        due("told(6), there was none", x.told(6), STATE);
        due("plant of no SQUARE, and of the least long", x.plant(0, LEAST, LEAST), BAD);
        x.form();
        x.term(0, 1, 1, 1);
        x.prove(0);
        due("plant of the least long by 0", x.plant(0, LEAST, 0), BAD);
        due("plant beside the SQUARES, of the least long", x.plant(1, LEAST, 1), BAD);
        due("plant of the least long", x.plant(0, LEAST, 1), LONG);
        for (int f = 1; f < 12; f++) {
            x.form();
        }
        due("under with a bad FORM when FULL", x.under(0, 12, 1), BAD);
        due("form() when FULL", x.form(), FULL);
    }

    public static void main(String[] args) {
        variablesFromOneToFour();
        twelveForms();
        numbersZeroAtFirst();
        productsOfUps();
        productsOfDowns();
        productsAheadOfLowestTerms();
        sums();
        productsOfSums();
        differences();
        productsOfDifferences();
        downsOfDifferences();
        quotients();
        negativeByOneIndex();
        negativeAheadOfPivot();
        negativeByPair();
        pairBehindPivots();
        pairByItsSign();
        pointByV0();
        firstT();
        lastT();
        noTFound();
        tooLongAtSomeT();
        tooLongInElimination();
        tooLongInWitness();
        whatThereIsByAnswers();
        nothingCarriedOver();
        multipliersByFiner();
        multipliersInOrder();
        tooLongPassedOver();
        pointsFromMinusThreeToThree();
        pointsInOrder();
        conditionAndGoalAtPoints();
        firstRefusal();
        end();
    }
}
