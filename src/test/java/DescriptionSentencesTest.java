import java.io.IOException;
import java.math.BigInteger;

/** The sentences of 'What it is' and of 'Description', a test each. */
public final class DescriptionSentencesTest {
    private static final BigInteger PRIME = BigInteger.valueOf(65521);
    private static Sentences s;

    public static void main(String[] args) throws IOException {
        s = new Sentences();
        whatItIs();
        s.under("Description");
        residues();
        matrix();
        order();
        elimination();
        tree();
        factors();
        levels();
        exceptions();
        s.end();
    }

    private static void whatItIs() {
        s.under("What it is");
        s.saidByOthers("A direct solver for sparse symmetric systems over the residues modulo "
                + "65521.");
        s.saidByOthers("It orders the rows so that little fill arises, knows the elimination tree, "
                + "factors the matrix, solves systems, and keeps the factors up to date when a "
                + "matrix of rank one is added.");
        s.test("An object is used for at most 512 calls after it has been made; what later calls "
                + "answer is free.", DescriptionSentencesTest::the512thCall);
    }

    /** Each call but the last leaves a trace, so that the last tells whether all were answered. */
    private static void the512thCall() {
        SparseFactor x = new SparseFactor();
        for (int call = 1; call <= 510; call++) {
            s.due("call " + call, x.setRight(0, call), call - 1);
        }
        s.refused("call 511", Refusals.STATE, x::pop);
        s.due("call 512", x.setRight(0, 1), 510);
    }

    // ---- residues

    private static void residues() {
        s.test("65521 is a prime number.", DescriptionSentencesTest::eachResidueHasAnInverse);
        s.test("All entries, factors, right sides and so on are residues, integers from 0 to "
                + "65520, and are added, multiplied and divided modulo 65521; so all answers are "
                + "exact.", DescriptionSentencesTest::residuesWrapAround);
    }

    private static void eachResidueHasAnInverse() {
        SparseFactor x = new SparseFactor();
        for (int value = 1; value <= 65520; value++) {
            if (value % 100 == 0) {
                x = new SparseFactor();
            }
            x.setEntry(0, 0, value);
            s.due("factor() of " + value, x.factor(), 1);
            s.due(value + " * its inverse", (long) value * x.inverse(0, 0) % 65521, 1);
        }
    }

    private static void residuesWrapAround() {
        s.due("65520 + 1", updated(65520, 1, 1), 0);
        s.due("65519 + 1", updated(65519, 1, 1), 65520);
        s.due("65520 + 65520", updated(65520, 1, 65520), 65519);
        s.due("2 + 65520 * 65520", updated(2, 65520, 1), 3);
        s.due("1 + 65520 * 65520 * 65520", updated(1, 65520, 65520), 0);
        s.due("1 + 256 * 256", updated(1, 256, 1), 16);
        SparseFactor below = Solvers.two(1, 65520, 0);
        s.due("factor()", below.factor(), 2);
        s.due("0 - 65520 * 65520", below.pivot(1), 65520);
        s.due("65520 / 1", below.lower(1, 0), 65520);
        SparseFactor half = Solvers.two(2, 1, 1);
        half.factor();
        s.due("1 / 2", half.lower(1, 0), 32761);
        s.due("1 - 1 / 2", half.pivot(1), 32761);
        SparseFactor least = Solvers.diagonal(65520, 65520);
        least.factor();
        least.setRight(0, 1);
        least.setRight(1, 65520);
        s.due("solve()", least.solve(), 2);
        s.due("1 / 65520", least.component(0), 65520);
        s.due("65520 / 65520", least.component(1), 1);
        s.due("the inverse of 65520", least.inverse(1, 1), 65520);
        s.due("65520 * 65520", least.determinant(), 1);
        s.due("0 - 1", Solvers.linked(2, 0, 1).determinant(), 65520);
        greatResidues();
    }

    private static int updated(int entry, int weight, int factor) {
        SparseFactor x = Solvers.diagonal(entry);
        x.factor();
        x.setWeight(0, weight);
        x.update(factor);
        return x.entry(0, 0);
    }

    /** Sixteen rows of residues near the greatest: L * D * L' is the matrix again. */
    private static void greatResidues() {
        SparseFactor x = Solvers.sized(16);
        int value = 1;
        for (int i = 0; i < 16; i++) {
            for (int j = 0; j <= i; j++) {
                value = value * 75 % 65537;
                x.setEntry(i, j, 65520 - value % 500);
            }
        }
        x.swap(2, 11);
        s.due("factor() of great residues", x.factor(), 16);
        productIsMatrix(x);
    }

    private static void productIsMatrix(SparseFactor x) {
        int n = x.size();
        BigInteger[][] l = new BigInteger[n][n];
        BigInteger[] d = new BigInteger[n];
        for (int p = 0; p < n; p++) {
            d[p] = BigInteger.valueOf(x.pivot(p));
            l[p][p] = BigInteger.ONE;
            for (int q = 0; q < p; q++) {
                l[p][q] = BigInteger.valueOf(x.lower(p, q));
            }
        }
        for (int p = 0; p < n; p++) {
            for (int q = 0; q <= p; q++) {
                BigInteger sum = BigInteger.ZERO;
                for (int m = 0; m <= q; m++) {
                    sum = sum.add(l[p][m].multiply(l[q][m]).multiply(d[m]));
                }
                s.due("L * D * L' at " + p + ", " + q, sum.mod(PRIME).longValue(),
                        x.entry(x.rowAt(p), x.rowAt(q)));
            }
        }
    }

    // ---- matrix

    private static void matrix() {
        s.test("There are n rows and as many columns, n from 1 to 16, numbered from 0.",
                DescriptionSentencesTest::rowsAndColumns);
        s.test("The entry of row i and column j is always that of row j and column i.",
                DescriptionSentencesTest::symmetric);
        s.test("Two different rows i and j are linked if their entry is not 0.",
                DescriptionSentencesTest::links);
    }

    private static void rowsAndColumns() {
        for (int n = 1; n <= 16; n++) {
            SparseFactor x = Solvers.sized(16);
            int size = n;
            s.due("setSize", x.setSize(n), n);
            s.taken("the first", () -> x.setEntry(0, 0, 7));
            s.taken("the last", () -> x.setEntry(size - 1, size - 1, 8));
            s.due("the last", x.entry(n - 1, n - 1), 8);
            s.refused("row n", Refusals.INDEX, () -> x.entry(size, 0));
            s.refused("column n", Refusals.INDEX, () -> x.entry(0, size));
            s.refused("row -1", Refusals.INDEX, () -> x.entry(-1, 0));
            s.refused("column -1", Refusals.INDEX, () -> x.entry(0, -1));
        }
        s.refused("0 rows", Refusals.ARGUMENT, () -> new SparseFactor().setSize(0));
        s.refused("17 rows", Refusals.ARGUMENT, () -> new SparseFactor().setSize(17));
    }

    private static void symmetric() {
        SparseFactor x = Solvers.unit(16);
        x.setEntry(15, 0, 3);
        x.setEntry(0, 14, 4);
        x.setEntry(14, 0, 5);
        sameBothWays("set", x, 15, 0, 3);
        sameBothWays("set twice", x, 0, 14, 5);
        x.setEntry(0, 14, 0);
        sameBothWays("set to 0", x, 0, 14, 0);
        x.push();
        x.reverse();
        sameBothWays("reversed", x, 15, 0, 3);
        s.due("factor()", x.factor(), 16);
        x.setWeight(2, 7);
        x.setWeight(15, 9);
        x.update(65520);
        sameBothWays("updated", x, 2, 15, 65521 - 63);
        sameBothWays("a weight of 0", x, 0, 15, 3);
        x.pop();
        sameBothWays("popped", x, 2, 15, 0);
        sameBothWays("popped", x, 15, 0, 3);
    }

    private static void sameBothWays(String when, SparseFactor x, int i, int j, int want) {
        s.due(when, x.entry(i, j), want);
        s.due(when + ", exchanged", x.entry(j, i), want);
    }

    private static void links() {
        s.due("no entries", Solvers.sized(16).linkCount(), 0);
        s.due("a row with itself", Solvers.unit(16).linkCount(), 0);
        SparseFactor x = Solvers.sized(16);
        x.setEntry(0, 15, 1);
        s.due("entry 1", x.linkCount(), 1);
        x.setEntry(14, 15, 65520);
        s.due("entry 65520", x.linkCount(), 2);
        x.setEntry(15, 0, 0);
        s.due("entry 0 again", x.linkCount(), 1);
        SparseFactor y = Solvers.two(1, 65520, 5);
        y.factor();
        y.setWeight(0, 1);
        y.setWeight(1, 1);
        y.update(1);
        s.due("65520 + 1 is 0", y.linkCount(), 0);
        s.due("no bandwidth", y.bandwidth(), 0);
        s.due("not joined", y.isJoined(0, 1), false);
    }

    // ---- order

    private static void order() {
        s.test("The order is a sequence of all rows; the place of a row in it is called its "
                + "position, from 0.", DescriptionSentencesTest::sequenceOfAllRows);
        s.test("At first, and after setSize, row i has the position i.",
                DescriptionSentencesTest::firstOrder);
    }

    private static void sequenceOfAllRows() {
        SparseFactor x = Solvers.star(16);
        x.swap(0, 15);
        x.swap(3, 15);
        x.swap(3, 8);
        eachRowOnce("swap", x);
        x.reverse();
        eachRowOnce("reverse", x);
        x.minimumDegree();
        eachRowOnce("minimumDegree", x);
        s.refused("position -1", Refusals.INDEX, () -> x.rowAt(-1));
        s.refused("position 16", Refusals.INDEX, () -> x.rowAt(16));
    }

    private static void eachRowOnce(String when, SparseFactor x) {
        int seen = 0;
        for (int p = 0; p < x.size(); p++) {
            seen |= 1 << x.rowAt(p);
            s.due(when + ", position of the row at " + p, x.position(x.rowAt(p)), p);
        }
        s.due(when + ", rows", seen, (1 << x.size()) - 1);
    }

    private static void firstOrder() {
        SparseFactor x = new SparseFactor();
        s.due("a new object, position", x.position(0), 0);
        s.due("a new object, rowAt", x.rowAt(0), 0);
        for (int n : new int[] {16, 1, 5, 16, 16}) {
            x.setSize(n);
            for (int i = 0; i < n; i++) {
                s.due("position of " + n, x.position(i), i);
                s.due("rowAt of " + n, x.rowAt(i), i);
            }
            x.reverse();
        }
    }

    // ---- elimination and tree

    private static void elimination() {
        s.test("At first two rows are joined if they are linked.",
                DescriptionSentencesTest::joinedAtFirst);
        s.test("Then for each row r, in the order: the rows with greater positions that are joined "
                + "with r become all joined with each other.",
                DescriptionSentencesTest::joinedByElimination);
        s.test("When this is done for all rows, the joined pairs are those that the methods speak "
                + "of.", DescriptionSentencesTest::joinedInTheEnd);
        s.test("Joined pairs that are not linked are called fill.",
                DescriptionSentencesTest::fill);
    }

    private static void joinedAtFirst() {
        SparseFactor x = Solvers.linked(16, 0, 15, 3, 4);
        s.due("linked", x.isJoined(0, 15), true);
        s.due("linked", x.isJoined(4, 3), true);
        s.due("not linked", x.isJoined(0, 1), false);
        s.due("not linked, with linked rows between", x.isJoined(3, 15), false);
        x.setEntry(0, 15, 0);
        s.due("linked no more", x.isJoined(0, 15), false);
        s.due("no links", Solvers.sized(16).isJoined(0, 15), false);
    }

    private static void joinedByElimination() {
        SparseFactor last = Solvers.linked(3, 2, 0, 2, 1);
        s.due("smaller positions", last.isJoined(0, 1), false);
        SparseFactor between = Solvers.linked(3, 1, 0, 1, 2);
        s.due("a smaller and a greater position", between.isJoined(0, 2), false);
        between.swap(0, 1);
        s.due("greater positions", between.isJoined(0, 2), true);
        between.swap(1, 2);
        s.due("greater positions, exchanged", between.isJoined(0, 2), true);
        SparseFactor star = Solvers.star(16);
        s.due("fifteen greater positions", star.isJoined(14, 15), true);
        star.swap(0, 14);
        s.due("one greater position", star.fillCount(), 0);
        star.swap(14, 13);
        s.due("two greater positions", star.fillCount(), 1);
        s.due("of these two", star.isJoined(13, 15), true);
        s.due("not of others", star.isJoined(14, 15), false);
    }

    private static void joinedInTheEnd() {
        SparseFactor x = Solvers.linked(5, 0, 1, 0, 4, 1, 2, 2, 3);
        s.due("fill of the first row", x.isJoined(1, 4), true);
        s.due("fill of fill", x.isJoined(2, 4), true);
        s.due("fill of fill of fill", x.isJoined(3, 4), true);
        s.due("the first row stays joined", x.isJoined(0, 4), true);
        s.due("but gets no more", x.isJoined(0, 2), false);
        s.due("nor does the second", x.isJoined(1, 3), false);
        s.due("fillCount()", x.fillCount(), 3);
        s.due("width(2)", x.width(2), 2);
        s.due("parent(2)", x.parent(2), 3);
        s.due("parent(3)", x.parent(3), 4);
        SparseFactor ring = Solvers.path(16);
        ring.setEntry(0, 15, 1);
        s.due("a ring of sixteen", ring.fillCount(), 13);
        s.due("its last fill", ring.isJoined(13, 15), true);
    }

    private static void fill() {
        s.due("no pairs", new SparseFactor().fillCount(), 0);
        s.due("all linked", Solvers.full(16, 1).fillCount(), 0);
        SparseFactor star = Solvers.star(16);
        s.due("all joined, fifteen linked", star.fillCount(), 105);
        star.setEntry(14, 15, 1);
        s.due("a fill pair linked", star.fillCount(), 104);
        star.setEntry(14, 15, 0);
        s.due("and no more", star.fillCount(), 105);
    }

    private static void tree() {
        s.test("The parent of a row is the row with the smallest position of those that are joined "
                + "with it and have a greater position; a row without such rows has no parent and "
                + "is a root.", DescriptionSentencesTest::parents);
        s.test("The ancestors of a row are its parent, the parent of its parent, and so on.",
                DescriptionSentencesTest::ancestors);
    }

    private static void parents() {
        SparseFactor x = Solvers.linked(4, 0, 2, 0, 3, 1, 3);
        s.due("the smallest of two", x.parent(0), 2);
        s.due("the only one", x.parent(1), 3);
        s.due("by fill", x.parent(2), 3);
        s.due("the last position", x.parent(3), -1);
        x.swap(2, 3);
        s.due("positions decide", x.parent(0), 3);
        s.due("smaller positions do not count", x.parent(2), -1);
        s.due("by fill, in the other order", x.parent(3), 2);
        for (int i = 0; i < 16; i++) {
            s.due("no links, row " + i, Solvers.sized(16).parent(i), -1);
        }
        s.due("one row", new SparseFactor().parent(0), -1);
        SparseFactor star = Solvers.star(16);
        star.swap(0, 15);
        s.due("row 0 as a parent", star.parent(15), 0);
    }

    private static void ancestors() {
        SparseFactor x = Solvers.path(16);
        for (int i = 0; i < 16; i++) {
            s.due("depth", x.depth(i), 15 - i);
            s.due("ancestors", x.reached(1 << i), 65536 - (1 << i));
        }
        SparseFactor one = new SparseFactor();
        s.due("none", one.depth(0), 0);
        // Row 2 is joined with row 0 but is no parent of it; as the parent's parent it counts.
        SparseFactor y = Solvers.linked(4, 0, 1, 0, 2);
        s.due("over two steps", y.reached(1), 7);
        s.due("a root apart", y.reached(8), 8);
    }

    // ---- factors

    private static void factors() {
        s.test("Let A(k, m) be the entry of the rows with the positions k and m.",
                DescriptionSentencesTest::entriesByPositions);
        s.test("For k = 0, 1, 2, ... in turn: pivot k is D(k) = A(k, k) - the sum of L(k, m) * "
                + "L(k, m) * D(m) over all m < k; then, for each i > k, L(i, k) = (A(i, k) - the "
                + "sum of L(i, m) * L(k, m) * D(m) over all m < k) / D(k).",
                DescriptionSentencesTest::pivotsInTurn);
        s.test("If a pivot is 0, no factors exist.", DescriptionSentencesTest::pivotZero);
        s.test("The solver has factors from a call of factor or update that finds them until the "
                + "next change of the matrix (other than by update) or of the order, even if it "
                + "changes nothing.", DescriptionSentencesTest::howLongFactorsStand);
    }

    private static void entriesByPositions() {
        SparseFactor x = Solvers.diagonal(2, 3, 5);
        x.setEntry(0, 2, 10);
        x.swap(0, 1);
        s.due("factor()", x.factor(), 3);
        s.due("pivot(0) is of row 1", x.pivot(0), 3);
        s.due("pivot(1) is of row 0", x.pivot(1), 2);
        s.due("rows 2 and 1", x.lower(2, 0), 0);
        s.due("rows 2 and 0", x.lower(2, 1), 5);
        s.due("pivot(2) is 5 - 5 * 5 * 2", x.pivot(2), 65521 - 45);
        SparseFactor turned = Solvers.diagonal(2, 3, 5);
        turned.swap(0, 1);
        turned.swap(1, 2);
        turned.factor();
        s.due("rows 1, 2, 0: pivot(0)", turned.pivot(0), 3);
        s.due("rows 1, 2, 0: pivot(1)", turned.pivot(1), 5);
        s.due("rows 1, 2, 0: pivot(2)", turned.pivot(2), 2);
    }

    private static void pivotsInTurn() {
        SparseFactor one = Solvers.diagonal(65520);
        s.due("one row", one.factor(), 1);
        s.due("one row", one.pivot(0), 65520);
        SparseFactor x = Solvers.diagonal(1, 6, 20);
        x.setEntry(1, 0, 2);
        x.setEntry(2, 0, 3);
        x.setEntry(2, 1, 10);
        s.due("factor()", x.factor(), 3);
        s.due("D(0)", x.pivot(0), 1);
        s.due("L(1, 0)", x.lower(1, 0), 2);
        s.due("L(2, 0)", x.lower(2, 0), 3);
        s.due("D(1) = 6 - 2 * 2 * 1", x.pivot(1), 2);
        s.due("L(2, 1) = (10 - 3 * 2 * 1) / 2", x.lower(2, 1), 2);
        s.due("D(2) = 20 - 3 * 3 * 1 - 2 * 2 * 2", x.pivot(2), 3);
        SparseFactor sixteen = Solvers.full(16, 2);
        s.due("factor() of sixteen rows", sixteen.factor(), 16);
        productIsMatrix(sixteen);
    }

    private static void pivotZero() {
        SparseFactor first = Solvers.two(0, 1, 0);
        s.due("the first, and not singular", first.determinant(), 65520);
        s.due("the first", first.factor(), 0);
        s.due("the first", first.hasFactors(), false);
        SparseFactor last = Solvers.unit(16);
        last.setEntry(15, 15, 0);
        s.due("the last", last.factor(), 15);
        s.due("the last", last.hasFactors(), false);
        s.refused("the last", Refusals.STATE, () -> last.pivot(0));
        SparseFactor one = new SparseFactor();
        s.due("the only one", one.factor(), 0);
        s.due("the only one", one.hasFactors(), false);
        SparseFactor wraps = Solvers.two(1, 65520, 1);
        s.due("by a wrap-around: 1 - 65520 * 65520", wraps.factor(), 1);
        s.due("by a wrap-around", wraps.hasFactors(), false);
        SparseFactor lost = Solvers.ready(3);
        lost.update(0);
        s.due("factors before", lost.hasFactors(), true);
        lost.setEntry(0, 0, 0);
        s.due("factor()", lost.factor(), 0);
        s.due("none left from before", lost.hasFactors(), false);
        SparseFactor updated = Solvers.unit(16);
        updated.factor();
        updated.setWeight(15, 1);
        s.due("by an update", updated.update(65520), 15);
        s.due("none left from before the update", updated.hasFactors(), false);
    }

    private static void howLongFactorsStand() {
        SparseFactor x = Solvers.two(2, 4, 9);
        s.due("before factor", x.hasFactors(), false);
        x.factor();
        s.due("from factor", x.hasFactors(), true);
        x.update(0);
        s.due("from update(0)", x.hasFactors(), true);
        ends("setEntry with the same value", y -> y.setEntry(0, 1, y.entry(0, 1)));
        ends("setEntry of 0 with 0", y -> y.setEntry(0, 2, 0));
        ends("swap of a position with itself", y -> y.swap(1, 1));
        ends("swap", y -> y.swap(0, 1));
        ends("swap and back", y -> {
            y.swap(0, 1);
            y.swap(1, 0);
        });
        ends("minimumDegree with the same order", SparseFactor::minimumDegree);
        ends("reverse", SparseFactor::reverse);
        ends("setSize", y -> y.setSize(3));
        ends("pop", SparseFactor::pop);
        SparseFactor one = Solvers.diagonal(4);
        one.factor();
        one.reverse();
        s.due("reverse of one row", one.hasFactors(), false);
        s.due("from factor again", one.factor(), 1);
        s.due("from factor again", one.hasFactors(), true);
        one.minimumDegree();
        s.due("minimumDegree of one row", one.hasFactors(), false);
        stands("setRight", y -> y.setRight(0, 5));
        stands("setWeight", y -> y.setWeight(0, 5));
        stands("solve", SparseFactor::solve);
        stands("push", SparseFactor::push);
        stands("factor", SparseFactor::factor);
        stands("update", y -> y.update(1));
        stands("what tells the state", Look::at);
        stands("setEntry refused", y -> Checks.outcome(() -> y.setEntry(0, 1, 65521)));
        stands("swap refused", y -> Checks.outcome(() -> y.swap(0, 3) ? 1 : 0));
        stands("setSize refused", y -> Checks.outcome(() -> y.setSize(17)));
    }

    private interface Step {
        void on(SparseFactor x);
    }

    /** Three rows in an order that minimumDegree leaves as it is, and a level with the same. */
    private static SparseFactor threeWithFactors() {
        SparseFactor x = Solvers.ready(3);
        x.minimumDegree();
        x.push();
        s.due("factor()", x.factor(), 3);
        return x;
    }

    private static void ends(String name, Step step) {
        SparseFactor x = threeWithFactors();
        step.on(x);
        s.due(name, x.hasFactors(), false);
        s.refused(name + ", pivot", Refusals.STATE, () -> x.pivot(0));
    }

    private static void stands(String name, Step step) {
        SparseFactor x = threeWithFactors();
        step.on(x);
        s.due(name, x.hasFactors(), true);
        s.taken(name + ", pivot", () -> x.pivot(0));
    }

    // ---- levels

    private static void levels() {
        s.test("push stores n, the matrix, the order, the right sides and the weights.",
                DescriptionSentencesTest::whatPushStores);
        s.test("pop restores what the latest push that has not been undone by a pop has stored; "
                + "then there are no factors and no solution.",
                DescriptionSentencesTest::whatPopRestores);
        s.test("There are at most 6 levels.", DescriptionSentencesTest::sixLevels);
    }

    private static void whatPushStores() {
        SparseFactor x = Solvers.sized(16);
        x.setEntry(15, 15, 1);
        x.setEntry(15, 0, 2);
        x.swap(0, 15);
        x.setRight(15, 3);
        x.setWeight(15, 4);
        x.push();
        x.setEntry(15, 15, 11);
        x.setEntry(15, 0, 12);
        x.swap(0, 15);
        x.setRight(15, 13);
        x.setWeight(15, 14);
        x.setSize(2);
        x.pop();
        s.due("n", x.size(), 16);
        s.due("the matrix", x.entry(15, 15), 1);
        s.due("the matrix", x.entry(0, 15), 2);
        s.due("the order", x.position(15), 0);
        s.due("the order", x.rowAt(15), 0);
        s.due("the right sides", x.setRight(15, 0), 3);
        s.due("the weights", x.setWeight(15, 0), 4);
        SparseFactor y = Solvers.ready(3);
        y.push();
        s.due("push leaves the factors", y.hasFactors(), true);
        s.taken("push leaves the solution", () -> y.component(0));
        y.pop();
        s.due("factors are not stored", y.hasFactors(), false);
        s.refused("the solution is not stored", Refusals.NO_ELEMENT, () -> y.component(0));
    }

    private static void whatPopRestores() {
        SparseFactor x = Solvers.ready(3);
        markAndPush(x, 1);
        markAndPush(x, 2);
        markAndPush(x, 3);
        x.setRight(0, 4);
        x.pop();
        s.due("the third", x.setRight(0, 9), 3);
        x.pop();
        s.due("the second", x.setRight(0, 9), 2);
        markAndPush(x, 5);
        x.setSize(1);
        x.pop();
        s.due("a push after a pop", x.setRight(0, 9), 5);
        x.pop();
        s.due("the first", x.setRight(0, 9), 1);
        x.factor();
        x.push();
        x.solve();
        x.pop();
        s.due("no factors, though nothing was changed", x.hasFactors(), false);
        s.refused("no solution", Refusals.NO_ELEMENT, () -> x.component(0));
    }

    private static void markAndPush(SparseFactor x, int mark) {
        x.setRight(0, mark);
        x.push();
    }

    private static void sixLevels() {
        SparseFactor x = new SparseFactor();
        for (int k = 1; k <= 6; k++) {
            x.setRight(0, k);
            s.due("push()", x.push(), k);
        }
        s.refused("a seventh level", Refusals.STATE, x::push);
        s.refused("and again", Refusals.STATE, x::push);
        s.due("pop()", x.pop(), 5);
        s.due("after a pop there is room", x.push(), 6);
        s.refused("for one", Refusals.STATE, x::push);
        for (int k = 6; k >= 1; k--) {
            s.due("pop()", x.pop(), k - 1);
            s.due("what stands on level " + k, x.setRight(0, 0), k);
        }
        s.refused("a pop below", Refusals.STATE, x::pop);
    }

    // ---- exceptions

    private static void exceptions() {
        s.test("A method that throws an exception changes nothing.",
                () -> new UnchangedByRefusals(s).all());
        s.test("If several exceptions apply, the one that is named first is thrown.",
                DescriptionSentencesTest::firstNamed);
    }

    private static void firstNamed() {
        for (int bad : Solvers.beyond(3)) {
            SparseFactor x = Solvers.sized(3);
            for (int value : Solvers.NO_RESIDUES) {
                indexFirst("setEntry, row", () -> x.setEntry(bad, 0, value));
                indexFirst("setEntry, column", () -> x.setEntry(2, bad, value));
                indexFirst("setEntry, both", () -> x.setEntry(bad, bad, value));
                indexFirst("setWeight", () -> x.setWeight(bad, value));
                indexFirst("setRight", () -> x.setRight(bad, value));
            }
            indexFirst("pivot", () -> x.pivot(bad));
            indexFirst("lower, p", () -> x.lower(bad, 0));
            indexFirst("lower, q", () -> x.lower(0, bad));
            indexFirst("lower, both", () -> x.lower(bad, bad));
            indexFirst("component", () -> x.component(bad));
            indexFirst("inverse, row", () -> x.inverse(bad, 0));
            indexFirst("inverse, column", () -> x.inverse(0, bad));
            indexFirst("inverse, both", () -> x.inverse(bad, bad));
        }
        for (int value : Solvers.NO_RESIDUES) {
            s.refused("update", Refusals.ARGUMENT, () -> Solvers.unit(3).update(value));
        }
    }

    private static void indexFirst(String call, Checks.Call made) {
        s.refused(call, Refusals.INDEX, made);
    }
}
