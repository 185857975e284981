import java.io.IOException;

/** The sentences of promises 25 to 30, a test each. */
public final class FactorSentencesTest {
    private static Sentences s;

    public static void main(String[] args) throws IOException {
        s = new Sentences();
        factor();
        hasFactors();
        pivot();
        lower();
        setWeight();
        update();
        s.end();
    }

    // ---- promise 25

    private static void factor() {
        s.under("Promise 25");
        s.test("Computes the factors, if they exist.", () -> {
            SparseFactor x = Solvers.two(2, 4, 9);
            s.refused("before", Refusals.STATE, () -> x.pivot(0));
            x.factor();
            s.due("pivot(0)", x.pivot(0), 2);
            s.due("pivot(1)", x.pivot(1), 1);
            s.due("lower(1, 0)", x.lower(1, 0), 2);
            x.setEntry(0, 0, 4);
            x.factor();
            s.due("of the changed matrix", x.pivot(0), 4);
            s.due("of the changed matrix", x.pivot(1), 5);
            x.swap(0, 1);
            x.factor();
            s.due("in the changed order", x.pivot(0), 9);
            s.due("the matrix stays", x.entry(0, 1), 4);
            s.due("the order stays", x.rowAt(0), 1);
            SparseFactor none = Solvers.sized(16);
            none.factor();
            s.refused("if they exist", Refusals.STATE, () -> none.pivot(0));
        });
        s.test("Returns n if they exist; otherwise the position of the first pivot that is 0 (then "
                + "there are no factors).", FactorSentencesTest::factorReturns);
    }

    private static void factorReturns() {
        for (int n = 1; n <= 16; n++) {
            SparseFactor x = Solvers.unit(n);
            s.due("unit matrix of " + n, x.factor(), n);
            s.due("unit matrix of " + n + " again", x.factor(), n);
            s.due("with factors", x.hasFactors(), true);
            for (int zero = 0; zero < n; zero++) {
                SparseFactor y = Solvers.unit(n);
                y.setEntry(zero, zero, 0);
                s.due("pivot " + zero + " of " + n, y.factor(), zero);
                s.due("then", y.hasFactors(), false);
            }
        }
        SparseFactor several = Solvers.unit(5);
        several.setEntry(1, 1, 0);
        several.setEntry(3, 3, 0);
        s.due("the first of two", several.factor(), 1);
        several.reverse();
        s.due("the first of two, positions 1 and 3 again", several.factor(), 1);
        several.swap(3, 4);
        several.swap(1, 2);
        s.due("a position, not a row", several.factor(), 2);
        SparseFactor lost = Solvers.ready(3);
        lost.setEntry(1, 1, 0);
        lost.setEntry(0, 1, 0);
        s.due("after factors that stood before", lost.factor(), 1);
        s.due("none then", lost.hasFactors(), false);
        s.refused("none then", Refusals.STATE, () -> lost.pivot(0));
    }

    // ---- promise 26

    private static void hasFactors() {
        s.under("Promise 26");
        s.test("Returns whether there are factors.", () -> {
            SparseFactor x = new SparseFactor();
            s.due("a new object", x.hasFactors(), false);
            x.factor();
            s.due("factor() found none", x.hasFactors(), false);
            x.setEntry(0, 0, 65520);
            s.due("they could be found, but are not yet", x.hasFactors(), false);
            x.factor();
            s.due("found", x.hasFactors(), true);
            s.due("asked again", x.hasFactors(), true);
            x.setWeight(0, 1);
            x.update(1);
            s.due("update(1) found none", x.hasFactors(), false);
            s.due("sixteen rows", Solvers.ready(16).hasFactors(), true);
        });
    }

    // ---- promise 27

    private static void pivot() {
        s.under("Promise 27");
        s.test("Returns the pivot D(p).", () -> {
            SparseFactor x = Solvers.sized(16);
            for (int i = 0; i < 16; i++) {
                x.setEntry(i, i, 65520 - i);
            }
            x.swap(0, 15);
            x.factor();
            s.due("the first position", x.pivot(0), 65505);
            s.due("the last position", x.pivot(15), 65520);
            s.due("another", x.pivot(7), 65513);
            SparseFactor y = Solvers.two(1, 2, 3);
            y.factor();
            s.due("3 - 4 wraps around", y.pivot(1), 65520);
            SparseFactor one = Solvers.diagonal(1);
            one.factor();
            s.due("one row", one.pivot(0), 1);
        });
        s.test("Throws `IndexOutOfBoundsException` if there is no such position",
                () -> Refusals.indices(s, "position", SparseFactor::pivot));
        s.test("Throws `IllegalStateException` if there are no factors",
                () -> Refusals.withoutFactors(s, SparseFactor::pivot));
    }

    // ---- promise 28

    private static void lower() {
        s.under("Promise 28");
        s.test("Returns L(p, q); 1 if p is q, 0 if p is less than q.", () -> {
            SparseFactor x = Solvers.full(16, 2);
            x.factor();
            for (int p = 0; p < 16; p++) {
                for (int q = 0; q < 16; q++) {
                    String call = "lower(" + p + ", " + q + ")";
                    if (p > q) {
                        // Of ones and the unit matrix: L(p, q) = 1 / (q + 2).
                        s.due(call + " * (q + 2)", (long) x.lower(p, q) * (q + 2) % 65521, 1);
                    } else {
                        s.due(call, x.lower(p, q), p == q ? 1 : 0);
                    }
                }
            }
            SparseFactor one = Solvers.diagonal(7);
            one.factor();
            s.due("one row", one.lower(0, 0), 1);
            SparseFactor y = Solvers.ready(3);
            s.due("no fill: 0 below the diagonal", y.lower(2, 0), 0);
        });
        s.test("Throws `IndexOutOfBoundsException` if there is no such position", () -> {
            Refusals.indices(s, "p", (x, p) -> x.lower(p, 0));
            Refusals.indices(s, "q", (x, q) -> x.lower(0, q));
            Refusals.indices(s, "p and q", (x, p) -> x.lower(p, p));
        });
        s.test("Throws `IllegalStateException` if there are no factors", () -> {
            Refusals.withoutFactors(s, (x, p) -> x.lower(p, p));
            SparseFactor x = Solvers.unfactored(2);
            s.refused("below the diagonal", Refusals.STATE, () -> x.lower(1, 0));
            s.refused("above the diagonal", Refusals.STATE, () -> x.lower(0, 1));
        });
    }

    // ---- promise 29

    private static void setWeight() {
        s.under("Promise 29");
        s.test("Sets the weight of a row.", () -> {
            for (int row : new int[] {0, 15}) {
                SparseFactor x = Solvers.unit(16);
                x.setWeight(row, 65520);
                x.factor();
                x.update(3);
                for (int i = 0; i < 16; i++) {
                    s.due("of row " + row + " alone, entry " + i, x.entry(i, i),
                            i == row ? 4 : 1);
                }
                s.due("no links", x.linkCount(), 0);
                s.due("stays after update", x.setWeight(row, 0), 65520);
            }
            SparseFactor y = Solvers.ready(3);
            y.setWeight(2, 9);
            s.due("keeps the factors", y.hasFactors(), true);
            s.due("is no right side", y.setRight(2, 1), 7);
        });
        s.test("Returns the weight before.", () -> {
            SparseFactor x = Solvers.sized(16);
            s.due("at first", x.setWeight(15, 65520), 0);
            s.due("then", x.setWeight(15, 65520), 65520);
            s.due("another row", x.setWeight(0, 1), 0);
            s.due("to 0", x.setWeight(15, 0), 65520);
            s.refused("refused", Refusals.ARGUMENT, () -> x.setWeight(0, 65521));
            s.due("after a refused call", x.setWeight(0, 2), 1);
        });
        s.test("Throws `IndexOutOfBoundsException` if there is no such row",
                () -> Refusals.indices(s, "row", (x, i) -> x.setWeight(i, 7)));
        s.test("Throws `IllegalArgumentException` if value is not 0 to 65520", () -> {
            Refusals.residues(s, (x, value) -> x.setWeight(0, value));
            Refusals.residues(s, (x, value) -> x.setWeight(2, value));
        });
    }

    // ---- promise 30

    private static void update() {
        s.under("Promise 30");
        s.test("Adds factor * (the weight of row i) * (the weight of row j) to each entry (i, j), "
                + "and finds the factors of the new matrix.", FactorSentencesTest::updateAdds);
        s.test("Returns n if there are factors then; otherwise the position of the first pivot "
                + "that is 0 (then the matrix is changed, and there are no factors).",
                FactorSentencesTest::updateReturns);
        s.test("Throws `IllegalArgumentException` if factor is not 0 to 65520",
                () -> Refusals.residues(s, SparseFactor::update));
        s.test("Throws `IllegalStateException` if there are no factors", () -> {
            Refusals.withoutFactors(s, SparseFactor::update);
            SparseFactor x = Solvers.unfactored(3);
            s.refused("update(1)", Refusals.STATE, () -> x.update(1));
            s.refused("update(65520)", Refusals.STATE, () -> x.update(65520));
            s.due("the matrix stays", x.entry(0, 0), 2);
        });
    }

    private static void updateAdds() {
        SparseFactor x = Solvers.two(2, 4, 9);
        x.factor();
        x.setWeight(0, 1);
        x.setWeight(1, 65518);
        s.due("update(2)", x.update(2), 2);
        s.due("2 + 2 * 1 * 1", x.entry(0, 0), 4);
        s.due("4 + 2 * 1 * (-3) wraps around", x.entry(0, 1), 65519);
        s.due("exchanged", x.entry(1, 0), 65519);
        s.due("9 + 2 * (-3) * (-3)", x.entry(1, 1), 27);
        s.due("pivot(0)", x.pivot(0), 4);
        s.due("pivot(1) = 27 - 4 / 4", x.pivot(1), 26);
        s.due("lower(1, 0) * 2 = -1", x.lower(1, 0) * 2L % 65521, 65520);
        s.due("and back by 65519", x.update(65519), 2);
        s.due("entry(1, 1)", x.entry(1, 1), 9);
        s.due("entry(0, 1)", x.entry(0, 1), 4);
        s.due("pivot(1)", x.pivot(1), 1);
        long before = x.digest();
        s.due("factor 0", x.update(0), 2);
        s.due("adds nothing", x.digest(), before);
        SparseFactor zero = Solvers.ready(3);
        for (int i = 0; i < 3; i++) {
            zero.setWeight(i, 0);
        }
        before = zero.digest();
        s.due("weights 0", zero.update(65520), 3);
        s.due("add nothing", zero.digest(), before);
        updateOfSixteen();
    }

    /** The rows are in another order than the positions, and all weights differ. */
    private static void updateOfSixteen() {
        SparseFactor x = Solvers.unit(16);
        x.reverse();
        for (int i = 0; i < 16; i++) {
            x.setWeight(i, 65520 - i);
        }
        x.factor();
        s.due("update of sixteen", x.update(65520), 16);
        for (int i = 0; i < 16; i++) {
            for (int j = 0; j <= i; j++) {
                long due = (i == j ? 1 : 0) - (long) (i + 1) * (j + 1);
                s.due("entry", x.entry(i, j), Math.floorMod(due, 65521L));
            }
        }
        s.due("pivot(0) is of row 15", x.pivot(0), 65521 - 255);
    }

    private static void updateReturns() {
        s.due("n of one row", Solvers.ready(1).update(0), 1);
        s.due("n of sixteen rows", Solvers.ready(16).update(0), 16);
        for (int zero = 0; zero < 16; zero++) {
            SparseFactor x = Solvers.unit(16);
            x.factor();
            x.setWeight(zero, 1);
            s.due("pivot " + zero + " becomes 0", x.update(65520), zero);
            s.due("the matrix is changed", x.entry(zero, zero), 0);
            s.due("there are no factors", x.hasFactors(), false);
            s.refused("there are no factors", Refusals.STATE, () -> x.pivot(0));
            s.refused("nor for another update", Refusals.STATE, () -> x.update(1));
            s.due("the weight stays", x.setWeight(zero, 0), 1);
        }
        SparseFactor y = Solvers.diagonal(1, 1, 4, 1);
        y.swap(0, 2);
        y.factor();
        y.setWeight(0, 1);
        y.setWeight(2, 1);
        // Position 0 is row 2: 4 - 1 = 3; position 2 is row 0: 1 - 1 - 1 / 3 is not 0.
        s.due("a pivot by the order", y.update(65520), 4);
        y.setWeight(2, 0);
        // Row 0 has the entry 0; with factor f the pivot is f - 1 / 3, and 1 / 3 = 43681.
        s.due("a position, not a row", y.update(43681), 2);
        s.due("the matrix is changed", y.entry(0, 0), 43681);
        s.due("only there", y.entry(0, 2), 65520);
    }
}
