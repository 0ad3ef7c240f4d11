import java.util.ArrayList;
import java.util.List;

/** What the tests by hand share: answers held against those that are due, forms made from rows, twins. */
abstract class Asking {
    // The numbers of the document, not the class's own, so that a wrong constant is seen.
    static final int BAD = -1;
    static final int STATE = -2;
    static final int FULL = -3;
    static final int LONG = -30;
    static final int BAD_TERM = -2000000;
    static final long LEAST = Long.MIN_VALUE;
    static final long GREATEST = Long.MAX_VALUE;

    private static String sentence = "";
    private static int wrong = 0;
    private static int asked = 0;

    /** Says which words of the document the answers behind it are for. */
    static void sentence(String words) {
        sentence = words;
    }

    static void due(String what, long got, long want) {
        asked++;
        if (got != want) {
            wrong++;
            System.out.println(sentence + ": " + what + " answered " + got + ", due is " + want);
        }
    }

    /** Prints how many answers were not as due, and fails if there were some. */
    static void end() {
        System.out.println(asked + " answers, " + wrong + " not as due");
        if (wrong != 0) {
            System.exit(1);
        }
    }

    /** A form with rows of i, j, v. */
    static int make(SquareSums x, int... rows) {
        int form = x.form();
        for (int k = 0; k + 2 < rows.length; k += 3) {
            x.term(form, rows[k], rows[k + 1], rows[k + 2]);
        }
        return form;
    }

    /** A new object with n variables and one form. */
    static SquareSums of(int n, int... rows) {
        SquareSums x = new SquareSums();
        x.variables(n);
        make(x, rows);
        return x;
    }

    /** A new object with n variables and one form, after prove(), which is to have answered so. */
    static SquareSums proved(int answer, int n, int... rows) {
        SquareSums x = of(n, rows);
        due("prove(0)", x.prove(0), answer);
        return x;
    }

    static void dueSquare(SquareSums x, int i, long up, long down, long... line) {
        due("weight(" + i + ", 0)", x.weight(i, 0), up);
        due("weight(" + i + ", 1)", x.weight(i, 1), down);
        for (int k = 0; 2 * k + 1 < line.length; k++) {
            due("line(" + i + ", " + k + ", 0)", x.line(i, k, 0), line[2 * k]);
            due("line(" + i + ", " + k + ", 1)", x.line(i, k, 1), line[2 * k + 1]);
        }
    }

    static void duePoint(SquareSums x, long... parts) {
        for (int k = 0; 2 * k + 1 < parts.length; k++) {
            due("point(" + (k + 1) + ", 0)", x.point(k + 1, 0), parts[2 * k]);
            due("point(" + (k + 1) + ", 1)", x.point(k + 1, 1), parts[2 * k + 1]);
        }
    }

    /** Nothing is told of a point: also the downs are 0, which no fraction has. */
    static void dueNoPoint(SquareSums x) {
        duePoint(x, 0, 0, 0, 0, 0, 0, 0, 0);
    }

    static void dueNoSquares(SquareSums x) {
        due("told(1)", x.told(1), 0);
        for (int i = 0; i < 5; i++) {
            due("weight(" + i + ", 1)", x.weight(i, 1), 0);
            due("line(" + i + ", 1, 1)", x.line(i, 1, 1), 0);
            due("near(" + i + ")", x.near(i), 0);
            due("plant(" + i + ", 1, 1)", x.plant(i, 1, 1), BAD);
        }
    }

    static void dueTold(SquareSums x, long... row) {
        for (int k = 0; k < row.length; k++) {
            due("told(" + k + ")", x.told(k), row[k]);
        }
    }

    /** All that an object tells, in some 300 calls; it is of no more use then. */
    static List<String> all(SquareSums x) {
        List<String> out = new ArrayList<>();
        int forms = x.count(1);
        for (int what = 0; what < 3; what++) {
            out.add("count " + what + " is " + x.count(what));
        }
        for (int what = 0; what < 7; what++) {
            out.add("told " + what + " is " + x.told(what));
        }
        addSquaresAndPoint(x, out);
        out.add("check is " + x.check());
        out.add("equal is " + x.equal());
        addPoint(x, out);
        for (int f = 0; f < forms; f++) {
            out.add("form " + f + " at a point is " + x.value(f, 1, -10, 100, -1000));
            out.add("form " + f + " is plain by " + x.plain(f));
            for (int i = 0; i < 5; i++) {
                for (int j = i; j < 5; j++) {
                    out.add("v " + i + " " + j + " of form " + f + " was " + x.term(f, i, j, 0));
                }
            }
        }
        out.add("the next form is " + x.form());
        return out;
    }

    private static void addSquaresAndPoint(SquareSums x, List<String> out) {
        for (int part = 0; part < 2; part++) {
            for (int i = 0; i < 5; i++) {
                out.add("weight " + i + " " + part + " is " + x.weight(i, part));
                for (int k = 0; k < 5; k++) {
                    out.add("line " + i + " " + k + " " + part + " is " + x.line(i, k, part));
                }
            }
        }
        for (int i = 0; i < 5; i++) {
            out.add("near " + i + " is " + x.near(i));
        }
        addPoint(x, out);
    }

    private static void addPoint(SquareSums x, List<String> out) {
        for (int k = 1; k < 5; k++) {
            out.add("point " + k + " is " + x.point(k, 0) + " / " + x.point(k, 1));
        }
    }

    /** Of twins that were made alike, the first one had a call refused: they are to tell the same. */
    static void dueAlike(String call, SquareSums x, SquareSums twin) {
        List<String> one = all(x);
        List<String> other = all(twin);
        asked++;
        for (int k = 0; k < one.size() && k < other.size(); k++) {
            if (!one.get(k).equals(other.get(k))) {
                wrong++;
                System.out.println(sentence + ": after " + call + " " + one.get(k) + "; without it, " + other.get(k));
                return;
            }
        }
    }
}
