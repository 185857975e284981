import java.io.IOException;

/** The sentences of promises 1 to 7, a test each. */
public final class MatrixSentencesTest {
    private static Sentences s;

    public static void main(String[] args) throws IOException {
        s = new Sentences();
        newObject();
        setSize();
        size();
        setEntry();
        entry();
        linkCount();
        determinant();
        s.end();
    }

    // ---- promise 1

    private static void newObject() {
        s.under("Promise 1");
        s.test("Creates a solver with n = 1, as after setSize(1).",
                MatrixSentencesTest::asAfterSetSize);
    }

    private static void asAfterSetSize() {
        SparseFactor x = new SparseFactor();
        s.due("size()", x.size(), 1);
        s.taken("row 0", () -> x.entry(0, 0));
        s.refused("row 1", Refusals.INDEX, () -> x.entry(1, 1));
        s.due("entry(0, 0)", x.entry(0, 0), 0);
        s.due("hasFactors()", x.hasFactors(), false);
        s.refused("no solution", Refusals.NO_ELEMENT, () -> x.component(0));
        s.refused("no level", Refusals.STATE, x::pop);
        String fresh = Look.through(new SparseFactor());
        s.due("as after setSize(1)", fresh, Look.through(Solvers.sized(1)));
        SparseFactor used = Solvers.ready(5);
        used.setSize(1);
        s.due("as after other calls and setSize(1)", fresh, Look.through(used));
        s.due("the other objects do not matter", fresh, Look.through(new SparseFactor()));
    }

    // ---- promise 2

    private static void setSize() {
        s.under("Promise 2");
        s.test("Starts a new matrix.", MatrixSentencesTest::startsNewMatrix);
        s.test("All entries, right sides and weights are 0; there are no factors and no solution.",
                MatrixSentencesTest::allIsZero);
        s.test("Returns n.", MatrixSentencesTest::setSizeReturns);
        s.test("Throws `IllegalArgumentException` if n is not 1 to 16",
                MatrixSentencesTest::setSizeRefuses);
    }

    private static void startsNewMatrix() {
        for (int n = 1; n <= 16; n++) {
            SparseFactor x = Solvers.ready(7);
            x.reverse();
            x.setSize(n);
            s.due("new matrix of " + n, x.digest(), Solvers.sized(n).digest());
        }
        SparseFactor y = Solvers.ready(3);
        y.push();
        y.setSize(2);
        s.due("the level stays", y.pop(), 0);
        s.due("with its size", y.size(), 3);
        s.due("and its matrix", y.entry(2, 2), 4);
    }

    private static void allIsZero() {
        for (int n : new int[] {1, 2, 15, 16}) {
            SparseFactor x = Solvers.ready(16);
            x.setSize(n);
            cleared("smaller, or the same", x, n);
        }
        SparseFactor y = Solvers.ready(16);
        y.setSize(1);
        y.setSize(16);
        cleared("small and great again", y, 16);
        SparseFactor z = Solvers.ready(2);
        z.setSize(2);
        s.refused("solve()", Refusals.STATE, z::solve);
        s.refused("update(0)", Refusals.STATE, () -> z.update(0));
    }

    private static void cleared(String when, SparseFactor x, int n) {
        s.due(when + ", hasFactors()", x.hasFactors(), false);
        for (int i = 0; i < n; i++) {
            int row = i;
            s.refused(when + ", component", Refusals.NO_ELEMENT, () -> x.component(row));
            s.due(when + ", right side", x.setRight(i, 1), 0);
            s.due(when + ", weight", x.setWeight(i, 1), 0);
            for (int j = 0; j <= i; j++) {
                s.due(when + ", entry", x.entry(i, j), 0);
            }
        }
        s.due(when + ", links", x.linkCount(), 0);
    }

    private static void setSizeReturns() {
        SparseFactor x = new SparseFactor();
        for (int n = 1; n <= 16; n++) {
            s.due("setSize(" + n + ")", x.setSize(n), n);
            s.due("setSize(" + n + ") again", x.setSize(n), n);
        }
        s.due("back to 1", x.setSize(1), 1);
    }

    private static void setSizeRefuses() {
        SparseFactor x = Solvers.ready(16);
        long before = x.digest();
        for (int bad : new int[] {0, 17, -1, -16, 18, 32, 33, 256, 257, 65537, Integer.MIN_VALUE,
            Integer.MIN_VALUE + 1, Integer.MAX_VALUE}) {
            s.refused("setSize(" + bad + ")", Refusals.ARGUMENT, () -> x.setSize(bad));
            s.due("size() after setSize(" + bad + ")", x.size(), 16);
        }
        s.due("digest()", x.digest(), before);
        s.taken("the solution", () -> x.component(15));
        s.taken("1", () -> x.setSize(1));
        s.taken("16", () -> x.setSize(16));
    }

    // ---- promise 3

    private static void size() {
        s.under("Promise 3");
        s.test("Returns n.", () -> {
            SparseFactor x = new SparseFactor();
            s.due("at first", x.size(), 1);
            for (int n = 16; n >= 1; n--) {
                x.setSize(n);
                s.due("after setSize", x.size(), n);
            }
            s.refused("setSize(17)", Refusals.ARGUMENT, () -> x.setSize(17));
            s.due("after a refused setSize", x.size(), 1);
            x.push();
            x.setSize(16);
            s.due("on a level", x.size(), 16);
            x.pop();
            s.due("after pop", x.size(), 1);
        });
    }

    // ---- promise 4

    private static void setEntry() {
        s.under("Promise 4");
        s.test("Sets an entry (and that of the column and the row exchanged).",
                MatrixSentencesTest::setsBoth);
        s.test("Returns the entry before.", MatrixSentencesTest::setEntryReturns);
        s.test("Throws `IndexOutOfBoundsException` if there is no such row or column", () -> {
            Refusals.indices(s, "row", (x, i) -> x.setEntry(i, 0, 7));
            Refusals.indices(s, "column", (x, j) -> x.setEntry(0, j, 7));
            Refusals.indices(s, "row and column", (x, i) -> x.setEntry(i, i, 7));
        });
        s.test("Throws `IllegalArgumentException` if value is not 0 to 65520", () -> {
            Refusals.residues(s, (x, value) -> x.setEntry(0, 0, value));
            Refusals.residues(s, (x, value) -> x.setEntry(2, 1, value));
        });
    }

    private static void setsBoth() {
        for (int[] pair : new int[][] {{0, 0}, {0, 15}, {15, 0}, {15, 15}, {7, 8}}) {
            for (int value : Solvers.EDGE_RESIDUES) {
                SparseFactor x = Solvers.full(16, 9);
                x.setEntry(pair[0], pair[1], value);
                s.due("the entry", x.entry(pair[0], pair[1]), value);
                s.due("exchanged", x.entry(pair[1], pair[0]), value);
                int sum = 0;
                for (int i = 0; i < 16; i++) {
                    for (int j = 0; j < i; j++) {
                        sum += x.entry(i, j);
                    }
                }
                s.due("the others stay", sum, pair[0] == pair[1] ? 120 : 119 + value);
            }
        }
    }

    private static void setEntryReturns() {
        SparseFactor x = Solvers.sized(16);
        s.due("at first", x.setEntry(15, 0, 65520), 0);
        s.due("exchanged", x.setEntry(0, 15, 1), 65520);
        s.due("the same again", x.setEntry(0, 15, 1), 1);
        s.due("to 0", x.setEntry(15, 0, 0), 1);
        s.due("from 0", x.setEntry(15, 0, 3), 0);
        s.refused("refused", Refusals.ARGUMENT, () -> x.setEntry(15, 0, 65521));
        s.due("after a refused call", x.setEntry(15, 0, 4), 3);
        s.due("of the diagonal", x.setEntry(15, 15, 65520), 0);
        s.due("of the diagonal, again", x.setEntry(15, 15, 5), 65520);
    }

    // ---- promise 5

    private static void entry() {
        s.under("Promise 5");
        s.test("Returns the entry.", () -> {
            SparseFactor x = Solvers.sized(16);
            s.due("at first", x.entry(0, 15), 0);
            x.setEntry(0, 15, 65520);
            x.setEntry(0, 0, 1);
            x.swap(0, 15);
            s.due("row 0, column 15", x.entry(0, 15), 65520);
            s.due("row 15, column 0", x.entry(15, 0), 65520);
            s.due("by rows, not by positions", x.entry(0, 0), 1);
            s.due("by rows, not by positions", x.entry(15, 15), 0);
        });
        s.test("Throws `IndexOutOfBoundsException` if there is no such row or column", () -> {
            Refusals.indices(s, "row", (x, i) -> x.entry(i, 0));
            Refusals.indices(s, "column", (x, j) -> x.entry(0, j));
            Refusals.indices(s, "row and column", (x, i) -> x.entry(i, i));
        });
    }

    // ---- promise 6

    private static void linkCount() {
        s.under("Promise 6");
        s.test("Returns the number of linked pairs.", () -> {
            s.due("one row", new SparseFactor().linkCount(), 0);
            s.due("empty", Solvers.sized(16).linkCount(), 0);
            s.due("diagonal alone", Solvers.unit(16).linkCount(), 0);
            s.due("full", Solvers.full(16, 0).linkCount(), 120);
            s.due("full, with the diagonal", Solvers.full(16, 65520).linkCount(), 120);
            s.due("fill is not counted", Solvers.star(16).linkCount(), 15);
            SparseFactor x = Solvers.full(16, 1);
            x.setSize(15);
            s.due("a smaller matrix", x.linkCount(), 0);
            x.setEntry(14, 0, 65520);
            s.due("the first and the last row", x.linkCount(), 1);
            x.setEntry(0, 14, 2);
            s.due("each pair once", x.linkCount(), 1);
        });
    }

    // ---- promise 7

    private static void determinant() {
        s.under("Promise 7");
        s.test("Returns the determinant of the matrix (whether there are factors or not).",
                MatrixSentencesTest::determinants);
    }

    private static void determinants() {
        s.due("one row, 0", new SparseFactor().determinant(), 0);
        s.due("one row, 65520", Solvers.diagonal(65520).determinant(), 65520);
        s.due("sixteen rows, 0", Solvers.sized(16).determinant(), 0);
        s.due("sixteen rows, unit", Solvers.unit(16).determinant(), 1);
        // A full matrix of ones and d - 1 times the unit matrix: (d - 1)^15 * (d + 15).
        s.due("full, singular", Solvers.full(16, 1).determinant(), 0);
        s.due("full, diagonal 0", Solvers.full(16, 0).determinant(), 65521 - 15);
        s.due("full, diagonal 2", Solvers.full(16, 2).determinant(), 17);
        SparseFactor x = Solvers.two(2, 4, 9);
        s.due("no factors yet", x.determinant(), 2);
        s.due("and none after", x.hasFactors(), false);
        x.factor();
        s.due("with factors", x.determinant(), 2);
        s.due("which stay", x.hasFactors(), true);
        x.setEntry(1, 1, 8);
        s.due("a changed matrix", x.determinant(), 0);
        SparseFactor none = Solvers.two(0, 7, 0);
        s.due("factor() finds none", none.factor(), 0);
        s.due("no factors exist: 0 - 49", none.determinant(), 65521 - 49);
        none.reverse();
        s.due("the order does not matter", none.determinant(), 65521 - 49);
        SparseFactor late = Solvers.linked(3, 0, 0, 1, 2);
        s.due("the second pivot is 0", late.determinant(), 65520);
        // Row 15 is the only one with an entry in the first column.
        SparseFactor far = Solvers.unit(16);
        far.setEntry(0, 0, 0);
        far.setEntry(15, 15, 0);
        far.setEntry(0, 15, 1);
        s.due("exchanged from afar", far.determinant(), 65520);
    }
}
