import java.util.NoSuchElementException;

/** For each promise: ordinary inputs, the edges that the document names, and wrong inputs. */
public final class PromisesTest {
    private static final Checks checks = new Checks();
    private static final Class<IndexOutOfBoundsException> INDEX = IndexOutOfBoundsException.class;
    private static final Class<IllegalArgumentException> ARGUMENT = IllegalArgumentException.class;
    private static final Class<IllegalStateException> STATE = IllegalStateException.class;
    private static final Class<NoSuchElementException> NO_ELEMENT = NoSuchElementException.class;
    private static final int[] NO_RESIDUES =
        {-1, 65521, 65522, Integer.MIN_VALUE, Integer.MAX_VALUE};

    public static void main(String[] args) {
        promise01NewObject();
        promise02SetSize();
        promise03Size();
        promise04SetEntry();
        promise05Entry();
        promise06LinkCount();
        promise07Determinant();
        promise08Swap();
        promise09MinimumDegree();
        promise10Reverse();
        promise11Position();
        promise12RowAt();
        promise13Bandwidth();
        promise14Profile();
        promise15IsJoined();
        promise16FillCount();
        promise17Width();
        promise18Work();
        promise19Parent();
        promise20Depth();
        promise21Subtree();
        promise22Height();
        promise23Meeting();
        promise24Reached();
        promise25Factor();
        promise26HasFactors();
        promise27Pivot();
        promise28Lower();
        promise29SetWeight();
        promise30Update();
        promise31SetRight();
        promise32Solve();
        promise33Component();
        promise34Inverse();
        promise35Push();
        promise36Pop();
        promise37Digest();
        checks.end();
    }

    // ---- objects to begin with

    private static SparseFactor sized(int n) {
        SparseFactor x = new SparseFactor();
        x.setSize(n);
        return x;
    }

    /** Links are given as pairs of rows, with the entry 1. */
    private static SparseFactor linked(int n, int... pairs) {
        SparseFactor x = sized(n);
        for (int k = 0; k < pairs.length; k += 2) {
            x.setEntry(pairs[k], pairs[k + 1], 1);
        }
        return x;
    }

    /** The matrix {{2, 4}, {4, 9}}: pivots 2 and 1, L(1, 0) = 2. */
    private static SparseFactor small() {
        SparseFactor x = sized(2);
        x.setEntry(0, 0, 2);
        x.setEntry(0, 1, 4);
        x.setEntry(1, 1, 9);
        return x;
    }

    private static SparseFactor factored() {
        SparseFactor x = small();
        x.factor();
        return x;
    }

    private static SparseFactor unit(int n) {
        SparseFactor x = sized(n);
        for (int i = 0; i < n; i++) {
            x.setEntry(i, i, 1);
        }
        return x;
    }

    /** The tree of linked(7, ..): 0 and 1 below 2, 3 below 4, 2 below 5; 4 and 6 are roots. */
    private static SparseFactor forest() {
        return linked(7, 0, 2, 2, 1, 3, 4, 2, 5);
    }

    // ---- matrix

    private static void promise01NewObject() {
        SparseFactor x = new SparseFactor();
        checks.due("1 size", x.size(), 1);
        checks.due("1 entry", x.entry(0, 0), 0);
        checks.due("1 position", x.position(0), 0);
        checks.due("1 rowAt", x.rowAt(0), 0);
        checks.due("1 hasFactors", x.hasFactors(), false);
        checks.due("1 setRight", x.setRight(0, 5), 0);
        checks.due("1 setWeight", x.setWeight(0, 5), 0);
        checks.dueThrow("1 component", NO_ELEMENT, () -> x.component(0));
        checks.dueThrow("1 pop", STATE, x::pop);
        SparseFactor y = new SparseFactor();
        long fresh = y.digest();
        y.setSize(1);
        checks.due("1 digest as after setSize(1)", fresh, y.digest());
        // 71, then 1 (n), 0 (entry), 0 (position), 0, 0 (right side, weight), 0 (levels), 0.
        long d = 71 * 31 + 1;
        for (int k = 0; k < 6; k++) {
            d *= 31;
        }
        checks.due("1 digest", fresh, d);
        SparseFactor z = new SparseFactor();
        z.setEntry(0, 0, 3);
        checks.due("1 objects are apart", new SparseFactor().entry(0, 0), 0);
    }

    private static void promise02SetSize() {
        SparseFactor x = new SparseFactor();
        checks.due("2 setSize(1)", x.setSize(1), 1);
        checks.due("2 setSize(16)", x.setSize(16), 16);
        checks.due("2 size", x.size(), 16);
        for (int n : new int[] {0, 17, -1, Integer.MIN_VALUE, Integer.MAX_VALUE}) {
            checks.dueThrow("2 setSize(" + n + ")", ARGUMENT, () -> x.setSize(n));
        }
        checks.due("2 size after refusals", x.size(), 16);
        for (int i = 0; i < 16; i++) {
            for (int j = 0; j <= i; j++) {
                x.setEntry(i, j, i == j ? 40 : 1);
            }
            x.setRight(i, 7);
            x.setWeight(i, 8);
        }
        x.reverse();
        x.factor();
        x.solve();
        long before = x.digest();
        checks.dueThrow("2 setSize(17)", ARGUMENT, () -> x.setSize(17));
        checks.due("2 refusal changes nothing", x.digest(), before);
        checks.due("2 refusal keeps the solution", x.component(0), x.component(15));
        checks.due("2 the same size again", x.setSize(16), 16);
        cleared(x, 16);
        x.setEntry(0, 15, 3);
        x.setSize(3);
        x.setSize(16);
        cleared(x, 16);
    }

    private static void cleared(SparseFactor x, int n) {
        checks.due("2 hasFactors", x.hasFactors(), false);
        checks.dueThrow("2 component", NO_ELEMENT, () -> x.component(0));
        for (int i = 0; i < n; i++) {
            checks.due("2 position", x.position(i), i);
            checks.due("2 rowAt", x.rowAt(i), i);
            checks.due("2 right side", x.setRight(i, 0), 0);
            checks.due("2 weight", x.setWeight(i, 0), 0);
            for (int j = 0; j < n; j++) {
                checks.due("2 entry", x.entry(i, j), 0);
            }
        }
    }

    private static void promise03Size() {
        SparseFactor x = new SparseFactor();
        for (int n = 1; n <= 16; n++) {
            x.setSize(n);
            checks.due("3 size", x.size(), n);
        }
        x.push();
        x.setSize(4);
        checks.due("3 size", x.size(), 4);
        x.pop();
        checks.due("3 size after pop", x.size(), 16);
    }

    private static void promise04SetEntry() {
        SparseFactor x = sized(3);
        checks.due("4 first", x.setEntry(0, 2, 65520), 0);
        checks.due("4 exchanged", x.entry(2, 0), 65520);
        checks.due("4 before", x.setEntry(2, 0, 5), 65520);
        checks.due("4 both", x.entry(0, 2), 5);
        checks.due("4 to 0", x.setEntry(0, 2, 0), 5);
        checks.due("4 diagonal", x.setEntry(1, 1, 9), 0);
        checks.due("4 diagonal before", x.setEntry(1, 1, 9), 9);
        long before = x.digest();
        for (int bad : new int[] {-1, 3, 16, Integer.MIN_VALUE, Integer.MAX_VALUE}) {
            checks.dueThrow("4 row " + bad, INDEX, () -> x.setEntry(bad, 0, 1));
            checks.dueThrow("4 column " + bad, INDEX, () -> x.setEntry(0, bad, 1));
            checks.dueThrow("4 row and value", INDEX, () -> x.setEntry(bad, 0, -1));
            checks.dueThrow("4 column and value", INDEX, () -> x.setEntry(0, bad, 65521));
        }
        for (int bad : NO_RESIDUES) {
            checks.dueThrow("4 value " + bad, ARGUMENT, () -> x.setEntry(0, 1, bad));
        }
        checks.due("4 refusals change nothing", x.digest(), before);
        SparseFactor y = factored();
        checks.dueThrow("4 value", ARGUMENT, () -> y.setEntry(0, 1, -1));
        checks.due("4 refusal keeps the factors", y.hasFactors(), true);
        y.setEntry(0, 1, 4);
        checks.due("4 same entry drops the factors", y.hasFactors(), false);
    }

    private static void promise05Entry() {
        SparseFactor x = small();
        checks.due("5 entry(0, 0)", x.entry(0, 0), 2);
        checks.due("5 entry(1, 0)", x.entry(1, 0), 4);
        checks.due("5 entry(0, 1)", x.entry(0, 1), 4);
        x.reverse();
        checks.due("5 by rows, not positions", x.entry(0, 0), 2);
        for (int bad : new int[] {-1, 2, 16, Integer.MIN_VALUE, Integer.MAX_VALUE}) {
            checks.dueThrow("5 row", INDEX, () -> x.entry(bad, 0));
            checks.dueThrow("5 column", INDEX, () -> x.entry(0, bad));
        }
        x.factor();
        x.entry(0, 1);
        checks.due("5 keeps the factors", x.hasFactors(), true);
    }

    private static void promise06LinkCount() {
        SparseFactor x = sized(16);
        checks.due("6 none", x.linkCount(), 0);
        x.setEntry(3, 3, 1);
        checks.due("6 a diagonal entry links nothing", x.linkCount(), 0);
        int count = 0;
        for (int i = 0; i < 16; i++) {
            for (int j = 0; j < i; j++) {
                x.setEntry(i, j, 65520);
                count++;
                checks.due("6 links", x.linkCount(), count);
            }
        }
        x.setEntry(0, 15, 0);
        checks.due("6 one less", x.linkCount(), 119);
        SparseFactor y = linked(3, 0, 1, 0, 2);
        checks.due("6 fill is not linked", y.linkCount(), 2);
    }

    private static void promise07Determinant() {
        SparseFactor x = small();
        checks.due("7 without factors", x.determinant(), 2);
        checks.due("7 leaves no factors", x.hasFactors(), false);
        x.factor();
        checks.due("7 with factors", x.determinant(), 2);
        checks.due("7 keeps the factors", x.hasFactors(), true);
        checks.due("7 zero matrix", sized(16).determinant(), 0);
        SparseFactor y = linked(2, 0, 1);
        checks.due("7 zero pivots", y.determinant(), 65520);
        y.swap(0, 1);
        checks.due("7 whatever the order", y.determinant(), 65520);
        // Two exchanges give 1, three give -1.
        checks.due("7 two pairs", linked(4, 0, 1, 2, 3).determinant(), 1);
        checks.due("7 three pairs", linked(6, 0, 5, 1, 4, 2, 3).determinant(), 65520);
        SparseFactor z = small();
        z.setEntry(1, 1, 8);
        checks.due("7 singular", z.determinant(), 0);
        SparseFactor one = new SparseFactor();
        one.setEntry(0, 0, 65520);
        checks.due("7 one row", one.determinant(), 65520);
        SparseFactor big = sized(16);
        for (int i = 0; i < 16; i++) {
            for (int j = 0; j <= i; j++) {
                big.setEntry(i, j, i == j ? 0 : 1);
            }
        }
        // All ones less the unit matrix: (n - 1) * (-1)^(n - 1).
        checks.due("7 sixteen rows", big.determinant(), 65521 - 15);
    }

    // ---- order

    private static void promise08Swap() {
        SparseFactor x = sized(4);
        checks.due("8 different", x.swap(0, 3), true);
        checks.due("8 rowAt(0)", x.rowAt(0), 3);
        checks.due("8 rowAt(3)", x.rowAt(3), 0);
        checks.due("8 position(0)", x.position(0), 3);
        checks.due("8 by positions", x.swap(3, 1), true);
        checks.due("8 rowAt(1)", x.rowAt(1), 0);
        checks.due("8 rowAt(3)", x.rowAt(3), 1);
        checks.due("8 the same", x.swap(2, 2), false);
        checks.due("8 rowAt(2)", x.rowAt(2), 2);
        long before = x.digest();
        for (int bad : new int[] {-1, 4, 16, Integer.MIN_VALUE, Integer.MAX_VALUE}) {
            checks.dueThrow("8 p", INDEX, () -> x.swap(bad, 0) ? 1 : 0);
            checks.dueThrow("8 q", INDEX, () -> x.swap(0, bad) ? 1 : 0);
            checks.dueThrow("8 both", INDEX, () -> x.swap(bad, bad) ? 1 : 0);
        }
        checks.due("8 refusals change nothing", x.digest(), before);
        SparseFactor y = factored();
        checks.dueThrow("8 refused", INDEX, () -> y.swap(0, 2) ? 1 : 0);
        checks.due("8 refusal keeps the factors", y.hasFactors(), true);
        y.swap(1, 1);
        checks.due("8 drops the factors even if nothing changes", y.hasFactors(), false);
    }

    private static void promise09MinimumDegree() {
        SparseFactor star = linked(5, 2, 0, 2, 1, 2, 3, 2, 4);
        checks.due("9 star", star.minimumDegree(), 0);
        int[] starOrder = {0, 1, 3, 2, 4};
        for (int p = 0; p < 5; p++) {
            checks.due("9 star rowAt", star.rowAt(p), starOrder[p]);
            checks.due("9 star position", star.position(starOrder[p]), p);
        }
        SparseFactor ring = linked(5, 0, 1, 1, 2, 2, 3, 3, 4, 4, 0);
        checks.due("9 ring", ring.minimumDegree(), 2);
        // After row 0 rows 1 and 4 are joined, so all degrees stay 2 and the numbers decide.
        for (int p = 0; p < 5; p++) {
            checks.due("9 ring rowAt", ring.rowAt(p), p);
        }
        SparseFactor none = sized(4);
        none.reverse();
        checks.due("9 no links", none.minimumDegree(), 0);
        for (int p = 0; p < 4; p++) {
            checks.due("9 smallest number first", none.rowAt(p), p);
        }
        // Two triples all linked across: each row has degree 3 at first.
        SparseFactor two = linked(6, 0, 3, 0, 4, 0, 5, 1, 3, 1, 4, 1, 5, 2, 3, 2, 4, 2, 5);
        checks.due("9 two triples", two.minimumDegree(), 3);
        int[] twoOrder = {0, 1, 2, 3, 4, 5};
        for (int p = 0; p < 6; p++) {
            checks.due("9 two triples rowAt", two.rowAt(p), twoOrder[p]);
        }
        // A ring of four with a tail; the order before is of no meaning.
        SparseFactor mixed = linked(6, 0, 1, 1, 2, 2, 3, 3, 0, 0, 5, 4, 5);
        mixed.reverse();
        checks.due("9 mixed", mixed.minimumDegree(), 1);
        int[] mixedOrder = {4, 5, 0, 1, 2, 3};
        for (int p = 0; p < 6; p++) {
            checks.due("9 mixed rowAt", mixed.rowAt(p), mixedOrder[p]);
        }
        SparseFactor y = factored();
        y.minimumDegree();
        checks.due("9 drops the factors", y.hasFactors(), false);
    }

    private static void promise10Reverse() {
        SparseFactor x = linked(3, 0, 1, 0, 2);
        checks.due("10 fill before", x.fillCount(), 1);
        checks.due("10 fill after", x.reverse(), 0);
        for (int p = 0; p < 3; p++) {
            checks.due("10 rowAt", x.rowAt(p), 2 - p);
            checks.due("10 position", x.position(2 - p), p);
        }
        checks.due("10 back", x.reverse(), 1);
        SparseFactor y = sized(4);
        y.swap(0, 1);
        y.reverse();
        int[] order = {3, 2, 0, 1};
        for (int p = 0; p < 4; p++) {
            checks.due("10 even rowAt", y.rowAt(p), order[p]);
        }
        SparseFactor one = unit(1);
        one.factor();
        checks.due("10 one row", one.reverse(), 0);
        checks.due("10 drops the factors even if nothing changes", one.hasFactors(), false);
    }

    private static void promise11Position() {
        SparseFactor x = sized(16);
        x.swap(0, 15);
        x.swap(0, 7);
        checks.due("11 position(15)", x.position(15), 7);
        checks.due("11 position(7)", x.position(7), 0);
        checks.due("11 position(0)", x.position(0), 15);
        checks.due("11 position(1)", x.position(1), 1);
        for (int bad : new int[] {-1, 16, Integer.MIN_VALUE, Integer.MAX_VALUE}) {
            checks.dueThrow("11 row", INDEX, () -> x.position(bad));
        }
        x.setSize(2);
        checks.dueThrow("11 row 2 of 2", INDEX, () -> x.position(2));
    }

    private static void promise12RowAt() {
        SparseFactor x = sized(16);
        x.swap(0, 15);
        x.swap(0, 7);
        checks.due("12 rowAt(7)", x.rowAt(7), 15);
        checks.due("12 rowAt(0)", x.rowAt(0), 7);
        checks.due("12 rowAt(15)", x.rowAt(15), 0);
        for (int bad : new int[] {-1, 16, Integer.MIN_VALUE, Integer.MAX_VALUE}) {
            checks.dueThrow("12 position", INDEX, () -> x.rowAt(bad));
        }
        x.setSize(2);
        checks.dueThrow("12 position 2 of 2", INDEX, () -> x.rowAt(2));
    }

    private static void promise13Bandwidth() {
        SparseFactor x = linked(6, 0, 3, 3, 5, 5, 1, 1, 4, 4, 2);
        checks.due("13 bandwidth", x.bandwidth(), 4);
        x.swap(1, 4);
        checks.due("13 after swap", x.bandwidth(), 3);
        checks.due("13 no links", unit(5).bandwidth(), 0);
        SparseFactor corner = linked(16, 0, 15);
        checks.due("13 greatest", corner.bandwidth(), 15);
        corner.reverse();
        checks.due("13 greatest, reversed", corner.bandwidth(), 15);
        SparseFactor fill = linked(4, 0, 1, 0, 2, 1, 3);
        checks.due("13 fill does not count", fill.bandwidth(), 2);
    }

    private static void promise14Profile() {
        SparseFactor x = linked(6, 0, 3, 3, 5, 5, 1, 1, 4, 4, 2);
        checks.due("14 profile", x.profile(), 10);
        checks.due("14 no links", unit(5).profile(), 0);
        // Rows 2 and 3 reach back to 0 and 1, and row 1 to 0.
        SparseFactor wide = linked(16, 0, 15);
        checks.due("14 sixteen rows", wide.profile(), 15);
        wide.reverse();
        checks.due("14 row 0 at the end", wide.profile(), 15);
        SparseFactor y = linked(4, 0, 1, 0, 2, 1, 2, 1, 3);
        checks.due("14 by the smallest position", y.profile(), 5);
        y.reverse();
        checks.due("14 reversed", y.profile(), 4);
        y.swap(0, 1);
        checks.due("14 after swap", y.profile(), 5);
    }

    // ---- elimination and tree

    private static void promise15IsJoined() {
        SparseFactor x = linked(4, 0, 1, 0, 2);
        checks.due("15 linked", x.isJoined(0, 1), true);
        checks.due("15 linked, exchanged", x.isJoined(1, 0), true);
        checks.due("15 fill", x.isJoined(1, 2), true);
        checks.due("15 fill, exchanged", x.isJoined(2, 1), true);
        checks.due("15 not joined", x.isJoined(1, 3), false);
        x.setEntry(1, 1, 1);
        checks.due("15 the same", x.isJoined(1, 1), false);
        x.reverse();
        checks.due("15 no fill in this order", x.isJoined(1, 2), false);
        SparseFactor last = linked(3, 2, 0, 2, 1);
        last.reverse();
        checks.due("15 fill of row 0", last.isJoined(0, 1), true);
        last.swap(1, 2);
        checks.due("15 fill of row 0, before row 1", last.isJoined(0, 1), true);
        SparseFactor chain = linked(5, 0, 1, 0, 2, 1, 3);
        checks.due("15 fill from fill", chain.isJoined(2, 3), true);
        for (int bad : new int[] {-1, 4, 16, Integer.MIN_VALUE, Integer.MAX_VALUE}) {
            checks.dueThrow("15 i", INDEX, () -> x.isJoined(bad, 0) ? 1 : 0);
            checks.dueThrow("15 j", INDEX, () -> x.isJoined(0, bad) ? 1 : 0);
            checks.dueThrow("15 both", INDEX, () -> x.isJoined(bad, bad) ? 1 : 0);
        }
    }

    private static void promise16FillCount() {
        checks.due("16 none", sized(3).fillCount(), 0);
        SparseFactor star = sized(16);
        for (int i = 1; i < 16; i++) {
            star.setEntry(0, i, 1);
        }
        checks.due("16 star, centre first", star.fillCount(), 105);
        star.swap(0, 15);
        checks.due("16 star, centre last", star.fillCount(), 0);
        checks.due("16 ring", linked(5, 0, 1, 1, 2, 2, 3, 3, 4, 4, 0).fillCount(), 2);
        SparseFactor half = linked(3, 0, 1, 0, 2, 1, 2);
        checks.due("16 linked pairs are no fill", half.fillCount(), 0);
        half.setEntry(1, 2, 0);
        checks.due("16 once the link is gone", half.fillCount(), 1);
    }

    private static void promise17Width() {
        SparseFactor x = linked(5, 0, 1, 0, 2, 0, 3);
        int[] widths = {3, 2, 1, 0, 0};
        for (int i = 0; i < 5; i++) {
            checks.due("17 width", x.width(i), widths[i]);
        }
        x.reverse();
        int[] reversed = {0, 1, 1, 1, 0};
        for (int i = 0; i < 5; i++) {
            checks.due("17 width, reversed", x.width(i), reversed[i]);
        }
        for (int bad : new int[] {-1, 5, 16, Integer.MIN_VALUE, Integer.MAX_VALUE}) {
            checks.dueThrow("17 row", INDEX, () -> x.width(bad));
        }
    }

    private static void promise18Work() {
        SparseFactor x = linked(5, 0, 1, 0, 2, 0, 3);
        checks.due("18 work", x.work(), 14);
        x.reverse();
        checks.due("18 reversed", x.work(), 3);
        checks.due("18 none", unit(4).work(), 0);
        SparseFactor full = sized(16);
        for (int i = 1; i < 16; i++) {
            full.setEntry(0, i, 1);
        }
        checks.due("18 full", full.work(), 1240);
    }

    private static void promise19Parent() {
        int[] parents = {2, 2, 5, 4, -1, -1, -1};
        SparseFactor x = forest();
        for (int i = 0; i < 7; i++) {
            checks.due("19 parent", x.parent(i), parents[i]);
        }
        SparseFactor fill = linked(3, 0, 1, 0, 2);
        checks.due("19 smallest position", fill.parent(0), 1);
        checks.due("19 by fill", fill.parent(1), 2);
        fill.swap(1, 2);
        checks.due("19 by positions, not numbers", fill.parent(0), 2);
        checks.due("19 by fill", fill.parent(2), 1);
        checks.due("19 root", fill.parent(1), -1);
        for (int bad : new int[] {-1, 3, 16, Integer.MIN_VALUE, Integer.MAX_VALUE}) {
            checks.dueThrow("19 row", INDEX, () -> fill.parent(bad));
        }
    }

    private static void promise20Depth() {
        int[] depths = {2, 2, 1, 1, 0, 0, 0};
        SparseFactor x = forest();
        for (int i = 0; i < 7; i++) {
            checks.due("20 depth", x.depth(i), depths[i]);
        }
        SparseFactor path = sized(16);
        for (int i = 1; i < 16; i++) {
            path.setEntry(i - 1, i, 1);
        }
        checks.due("20 deepest", path.depth(0), 15);
        path.reverse();
        checks.due("20 reversed", path.depth(0), 0);
        for (int bad : new int[] {-1, 16, Integer.MIN_VALUE, Integer.MAX_VALUE}) {
            checks.dueThrow("20 row", INDEX, () -> path.depth(bad));
        }
    }

    private static void promise21Subtree() {
        int[] counts = {1, 1, 3, 1, 2, 4, 1};
        SparseFactor x = forest();
        for (int i = 0; i < 7; i++) {
            checks.due("21 subtree", x.subtree(i), counts[i]);
        }
        checks.due("21 sixteen rows", sized(16).subtree(15), 1);
        for (int bad : new int[] {-1, 7, 16, Integer.MIN_VALUE, Integer.MAX_VALUE}) {
            checks.dueThrow("21 row", INDEX, () -> x.subtree(bad));
        }
    }

    private static void promise22Height() {
        checks.due("22 forest", forest().height(), 3);
        checks.due("22 roots alone", sized(16).height(), 1);
        checks.due("22 one row", new SparseFactor().height(), 1);
        SparseFactor star = sized(16);
        for (int i = 1; i < 16; i++) {
            star.setEntry(0, i, 1);
        }
        checks.due("22 greatest", star.height(), 16);
        star.swap(0, 15);
        checks.due("22 star, centre last", star.height(), 2);
    }

    private static void promise23Meeting() {
        SparseFactor x = forest();
        checks.due("23 brothers", x.meeting(0, 1), 2);
        checks.due("23 an ancestor", x.meeting(0, 5), 5);
        checks.due("23 exchanged", x.meeting(5, 0), 5);
        checks.due("23 parent and child", x.meeting(2, 1), 2);
        checks.due("23 the same", x.meeting(3, 3), 3);
        checks.due("23 none", x.meeting(0, 4), -1);
        checks.due("23 two roots", x.meeting(4, 6), -1);
        SparseFactor y = linked(4, 0, 3, 1, 3, 2, 3);
        checks.due("23 with the first position", y.meeting(0, 0), 0);
        y.swap(2, 3);
        checks.due("23 in another order", y.meeting(0, 1), 3);
        checks.due("23 the last is the root", y.meeting(0, 2), 2);
        for (int bad : new int[] {-1, 7, 16, Integer.MIN_VALUE, Integer.MAX_VALUE}) {
            checks.dueThrow("23 i", INDEX, () -> x.meeting(bad, 0));
            checks.dueThrow("23 j", INDEX, () -> x.meeting(0, bad));
        }
    }

    private static void promise24Reached() {
        SparseFactor x = forest();
        checks.due("24 none", x.reached(0), 0);
        checks.due("24 row 0", x.reached(1), 1 + 4 + 32);
        checks.due("24 rows 1 and 3", x.reached(2 + 8), 2 + 4 + 32 + 8 + 16);
        checks.due("24 a root", x.reached(64), 64);
        checks.due("24 all", x.reached(127), 127);
        for (int bad : new int[] {-1, 128, 129, 255, 1 << 16, 1 << 30, Integer.MIN_VALUE,
            Integer.MAX_VALUE, Integer.MIN_VALUE + 1}) {
            checks.dueThrow("24 mask " + bad, ARGUMENT, () -> x.reached(bad));
        }
        x.setSize(16);
        checks.due("24 sixteen rows", x.reached(65535), 65535);
        checks.due("24 the last", x.reached(32768), 32768);
        checks.dueThrow("24 mask 65536", ARGUMENT, () -> x.reached(65536));
    }

    // ---- factors

    private static void promise25Factor() {
        SparseFactor x = small();
        checks.due("25 factor", x.factor(), 2);
        checks.due("25 again", x.factor(), 2);
        checks.due("25 no change", x.entry(1, 1), 9);
        checks.due("25 zero matrix", sized(3).factor(), 0);
        checks.due("25 new object", new SparseFactor().factor(), 0);
        SparseFactor y = small();
        y.setEntry(1, 1, 8);
        checks.due("25 second pivot is 0", y.factor(), 1);
        checks.due("25 then no factors", y.hasFactors(), false);
        SparseFactor z = unit(4);
        z.setEntry(2, 2, 0);
        z.swap(2, 3);
        checks.due("25 a position, not a row", z.factor(), 3);
        z.setEntry(2, 3, 1);
        checks.due("25 the order decides", z.factor(), 4);
        z.reverse();
        checks.due("25 and reversed", z.factor(), 0);
        checks.due("25 sixteen rows", unit(16).factor(), 16);
    }

    private static void promise26HasFactors() {
        SparseFactor x = small();
        checks.due("26 at first", x.hasFactors(), false);
        x.factor();
        checks.due("26 after factor", x.hasFactors(), true);
        x.push();
        x.setRight(0, 1);
        x.setWeight(0, 1);
        x.solve();
        x.inverse(0, 1);
        x.determinant();
        x.fillCount();
        x.digest();
        checks.due("26 kept by the other calls", x.hasFactors(), true);
        x.update(1);
        checks.due("26 after update", x.hasFactors(), true);
        x.setSize(2);
        checks.due("26 after setSize", x.hasFactors(), false);
        x.pop();
        checks.due("26 after pop", x.hasFactors(), false);
        x.factor();
        x.setEntry(0, 0, 2);
        checks.due("26 after setEntry", x.hasFactors(), false);
        x.factor();
        x.swap(0, 0);
        checks.due("26 after swap", x.hasFactors(), false);
        x.factor();
        x.minimumDegree();
        checks.due("26 after minimumDegree", x.hasFactors(), false);
        x.factor();
        x.reverse();
        checks.due("26 after reverse", x.hasFactors(), false);
    }

    private static void promise27Pivot() {
        SparseFactor x = factored();
        checks.due("27 pivot(0)", x.pivot(0), 2);
        checks.due("27 pivot(1)", x.pivot(1), 1);
        x.reverse();
        x.factor();
        checks.due("27 reversed", x.pivot(0), 9);
        // 2 - 16 / 9, and 9 * this = 2.
        checks.due("27 reversed", x.pivot(1) * 9L % 65521, 2);
        for (int bad : new int[] {-1, 2, 16, Integer.MIN_VALUE, Integer.MAX_VALUE}) {
            checks.dueThrow("27 position", INDEX, () -> x.pivot(bad));
        }
        x.setEntry(0, 0, 2);
        checks.dueThrow("27 no factors", STATE, () -> x.pivot(0));
        checks.dueThrow("27 position first", INDEX, () -> x.pivot(2));
    }

    private static void promise28Lower() {
        SparseFactor x = factored();
        checks.due("28 lower(1, 0)", x.lower(1, 0), 2);
        checks.due("28 lower(0, 1)", x.lower(0, 1), 0);
        checks.due("28 lower(0, 0)", x.lower(0, 0), 1);
        checks.due("28 lower(1, 1)", x.lower(1, 1), 1);
        x.reverse();
        x.factor();
        checks.due("28 reversed", x.lower(1, 0) * 9L % 65521, 4);
        for (int bad : new int[] {-1, 2, 16, Integer.MIN_VALUE, Integer.MAX_VALUE}) {
            checks.dueThrow("28 p", INDEX, () -> x.lower(bad, 0));
            checks.dueThrow("28 q", INDEX, () -> x.lower(0, bad));
        }
        x.swap(0, 0);
        checks.dueThrow("28 no factors", STATE, () -> x.lower(1, 0));
        checks.dueThrow("28 no factors, diagonal", STATE, () -> x.lower(0, 0));
        checks.dueThrow("28 no factors, above", STATE, () -> x.lower(0, 1));
        checks.dueThrow("28 position first", INDEX, () -> x.lower(0, 2));
        checks.dueThrow("28 position first", INDEX, () -> x.lower(-1, 0));
    }

    private static void promise29SetWeight() {
        SparseFactor x = factored();
        checks.due("29 first", x.setWeight(1, 65520), 0);
        checks.due("29 before", x.setWeight(1, 0), 65520);
        checks.due("29 keeps the factors", x.hasFactors(), true);
        x.setWeight(0, 3);
        checks.due("29 each row its own", x.setWeight(1, 4), 0);
        long before = x.digest();
        for (int bad : new int[] {-1, 2, 16, Integer.MIN_VALUE, Integer.MAX_VALUE}) {
            checks.dueThrow("29 row", INDEX, () -> x.setWeight(bad, 0));
            checks.dueThrow("29 row and value", INDEX, () -> x.setWeight(bad, -1));
        }
        for (int bad : NO_RESIDUES) {
            checks.dueThrow("29 value", ARGUMENT, () -> x.setWeight(0, bad));
        }
        checks.due("29 refusals change nothing", x.digest(), before);
    }

    private static void promise30Update() {
        SparseFactor x = factored();
        x.setWeight(0, 1);
        x.setWeight(1, 3);
        checks.due("30 update(2)", x.update(2), 2);
        checks.due("30 entry(0, 0)", x.entry(0, 0), 4);
        checks.due("30 entry(0, 1)", x.entry(0, 1), 10);
        checks.due("30 entry(1, 0)", x.entry(1, 0), 10);
        checks.due("30 entry(1, 1)", x.entry(1, 1), 27);
        checks.due("30 pivot(0)", x.pivot(0), 4);
        checks.due("30 pivot(1)", x.pivot(1), 2);
        checks.due("30 lower(1, 0) * 2", x.lower(1, 0) * 2L % 65521, 5);
        checks.due("30 back", x.update(65519), 2);
        checks.due("30 entry(1, 1)", x.entry(1, 1), 9);
        checks.due("30 factor 0", x.update(0), 2);
        checks.due("30 factor 0 keeps", x.hasFactors(), true);
        for (int bad : NO_RESIDUES) {
            checks.dueThrow("30 factor", ARGUMENT, () -> x.update(bad));
        }
        checks.due("30 refusal keeps", x.hasFactors(), true);
        // The first pivot becomes 0, though the matrix is not singular.
        checks.due("30 first pivot 0", x.update(65519), 0);
        checks.due("30 the matrix is changed", x.entry(0, 0), 0);
        checks.due("30 the matrix is changed", x.entry(0, 1), 65519);
        checks.due("30 no factors", x.hasFactors(), false);
        long before = x.digest();
        checks.dueThrow("30 no factors", STATE, () -> x.update(1));
        checks.dueThrow("30 factor first", ARGUMENT, () -> x.update(65521));
        checks.due("30 refusals change nothing", x.digest(), before);
        updateSixteenRows();
        updateInAnotherOrder();
        updateKeepsSolution();
    }

    /** The unit matrix and a matrix of ones together: its determinant is 17. */
    private static SparseFactor unitAndOnes() {
        SparseFactor x = unit(16);
        x.factor();
        for (int i = 0; i < 16; i++) {
            x.setWeight(i, 1);
        }
        x.update(1);
        return x;
    }

    private static void updateSixteenRows() {
        SparseFactor x = unitAndOnes();
        checks.due("30 sixteen rows", x.determinant(), 17);
        for (int p = 0; p < 16; p++) {
            checks.due("30 pivot " + p, (long) x.pivot(p) * (p + 1) % 65521, p + 2);
            checks.due("30 entry", x.entry(p, p), 2);
            checks.due("30 entry", x.entry(p, 15 - p), 1);
            for (int q = 0; q < p; q++) {
                checks.due("30 lower", (long) x.lower(p, q) * (q + 2) % 65521, 1);
            }
        }
        checks.due("30 back", x.update(65520), 16);
        checks.due("30 no links", x.linkCount(), 0);
    }

    private static void updateInAnotherOrder() {
        SparseFactor x = unit(3);
        x.swap(0, 2);
        x.factor();
        x.setWeight(0, 1);
        checks.due("30 zero at the last position", x.update(65520), 2);
        SparseFactor y = unit(3);
        y.factor();
        for (int i = 0; i < 3; i++) {
            y.setWeight(i, 65520);
        }
        checks.due("30 great weights", y.update(65520), 0);
        checks.due("30 the row's own", y.entry(0, 0), 0);
        checks.due("30 of two rows", y.entry(0, 1), 65520);
    }

    private static void updateKeepsSolution() {
        SparseFactor x = factored();
        x.setRight(0, 2);
        x.setRight(1, 5);
        x.solve();
        x.setWeight(0, 1);
        checks.due("30 pivot 0 turns to 0", x.update(65519), 0);
        checks.dueThrow("30 then no solve", STATE, x::solve);
        checks.due("30 the solution stays", x.component(0), 65520);
        checks.due("30 the right side stays", x.setRight(0, 0), 2);
        checks.due("30 the weight stays", x.setWeight(0, 0), 1);
    }

    // ---- systems

    private static void promise31SetRight() {
        SparseFactor x = factored();
        checks.due("31 first", x.setRight(1, 65520), 0);
        checks.due("31 before", x.setRight(1, 0), 65520);
        checks.due("31 keeps the factors", x.hasFactors(), true);
        x.setRight(0, 3);
        checks.due("31 each row its own", x.setRight(1, 4), 0);
        checks.due("31 apart from the weights", x.setWeight(1, 0), 0);
        long before = x.digest();
        for (int bad : new int[] {-1, 2, 16, Integer.MIN_VALUE, Integer.MAX_VALUE}) {
            checks.dueThrow("31 row", INDEX, () -> x.setRight(bad, 0));
            checks.dueThrow("31 row and value", INDEX, () -> x.setRight(bad, -1));
        }
        for (int bad : NO_RESIDUES) {
            checks.dueThrow("31 value", ARGUMENT, () -> x.setRight(0, bad));
        }
        checks.due("31 refusals change nothing", x.digest(), before);
    }

    private static void promise32Solve() {
        SparseFactor x = small();
        checks.dueThrow("32 no factors", STATE, x::solve);
        x.factor();
        checks.due("32 right sides 0", x.solve(), 0);
        x.setRight(0, 2);
        x.setRight(1, 4);
        checks.due("32 one component", x.solve(), 1);
        checks.due("32 component(0)", x.component(0), 1);
        checks.due("32 component(1)", x.component(1), 0);
        x.setRight(1, 5);
        checks.due("32 kept by setRight", x.component(1), 0);
        checks.due("32 two components", x.solve(), 2);
        checks.due("32 component(0)", x.component(0), 65520);
        checks.due("32 component(1)", x.component(1), 1);
        x.reverse();
        checks.dueThrow("32 no factors again", STATE, x::solve);
        checks.due("32 kept by a refused solve", x.component(0), 65520);
        x.factor();
        x.solve();
        checks.due("32 the same in another order", x.component(0), 65520);
        checks.due("32 the same in another order", x.component(1), 1);
        SparseFactor y = unit(16);
        for (int i = 0; i < 16; i++) {
            y.setRight(i, i);
        }
        y.reverse();
        y.factor();
        checks.due("32 sixteen rows", y.solve(), 15);
        checks.due("32 by rows", y.component(3), 3);
    }

    private static void promise33Component() {
        SparseFactor x = factored();
        checks.dueThrow("33 no solution", NO_ELEMENT, () -> x.component(0));
        checks.dueThrow("33 row first", INDEX, () -> x.component(2));
        x.setRight(0, 2);
        x.setRight(1, 5);
        x.solve();
        for (int bad : new int[] {-1, 2, 16, Integer.MIN_VALUE, Integer.MAX_VALUE}) {
            checks.dueThrow("33 row", INDEX, () -> x.component(bad));
        }
        x.setEntry(0, 0, 9);
        x.swap(0, 1);
        x.factor();
        x.setWeight(0, 1);
        x.update(1);
        x.push();
        checks.dueThrow("33 refused setSize", ARGUMENT, () -> x.setSize(0));
        checks.due("33 kept", x.component(0), 65520);
        checks.due("33 kept", x.component(1), 1);
        x.pop();
        checks.dueThrow("33 after pop", NO_ELEMENT, () -> x.component(0));
        checks.dueThrow("33 refused pop", STATE, x::pop);
        x.factor();
        x.solve();
        checks.dueThrow("33 refused pop", STATE, x::pop);
        checks.due("33 kept by a refused pop", Checks.outcome(() -> x.component(0)).startsWith("t"),
                false);
        x.setSize(2);
        checks.dueThrow("33 after setSize", NO_ELEMENT, () -> x.component(0));
    }

    private static void promise34Inverse() {
        SparseFactor x = factored();
        // The determinant is 2: {{9/2, -2}, {-2, 1}}.
        checks.due("34 inverse(0, 0) * 2", x.inverse(0, 0) * 2L % 65521, 9);
        checks.due("34 inverse(0, 1)", x.inverse(0, 1), 65519);
        checks.due("34 inverse(1, 0)", x.inverse(1, 0), 65519);
        checks.due("34 inverse(1, 1)", x.inverse(1, 1), 1);
        checks.dueThrow("34 leaves no solution", NO_ELEMENT, () -> x.component(0));
        x.setRight(0, 2);
        x.setRight(1, 5);
        x.solve();
        x.inverse(0, 0);
        checks.due("34 keeps the solution", x.component(0), 65520);
        x.reverse();
        x.factor();
        checks.due("34 the same in another order", x.inverse(1, 1), 1);
        checks.due("34 the same in another order", x.inverse(0, 1), 65519);
        SparseFactor y = unitAndOnes();
        for (int i = 0; i < 16; i++) {
            for (int j = 0; j < 16; j++) {
                checks.due("34 sixteen rows", y.inverse(i, j) * 17L % 65521, i == j ? 16 : 65520);
            }
        }
        for (int bad : new int[] {-1, 2, 16, Integer.MIN_VALUE, Integer.MAX_VALUE}) {
            checks.dueThrow("34 row", INDEX, () -> x.inverse(bad, 0));
            checks.dueThrow("34 column", INDEX, () -> x.inverse(0, bad));
        }
        x.setEntry(0, 0, 2);
        checks.dueThrow("34 no factors", STATE, () -> x.inverse(0, 0));
        checks.dueThrow("34 row first", INDEX, () -> x.inverse(2, 0));
        checks.dueThrow("34 column first", INDEX, () -> x.inverse(0, -1));
    }

    // ---- levels

    private static void promise35Push() {
        SparseFactor x = factored();
        x.setRight(0, 2);
        x.solve();
        for (int k = 1; k <= 6; k++) {
            checks.due("35 push", x.push(), k);
        }
        long before = x.digest();
        checks.dueThrow("35 a seventh", STATE, x::push);
        checks.due("35 refusal changes nothing", x.digest(), before);
        checks.due("35 keeps the factors", x.hasFactors(), true);
        checks.due("35 keeps the solution", x.component(0), x.component(0));
        checks.due("35 pop", x.pop(), 5);
        checks.due("35 push again", x.push(), 6);
        x.setSize(4);
        checks.dueThrow("35 setSize keeps the levels", STATE, x::push);
    }

    private static void promise36Pop() {
        SparseFactor x = small();
        checks.dueThrow("36 no level", STATE, x::pop);
        x.setRight(0, 5);
        x.setWeight(1, 6);
        x.swap(0, 1);
        long first = x.digest();
        x.push();
        x.setSize(16);
        x.setEntry(15, 3, 4);
        x.swap(2, 9);
        x.setRight(15, 8);
        x.setWeight(14, 9);
        long second = x.digest();
        x.push();
        x.setEntry(15, 3, 7);
        x.reverse();
        x.setRight(15, 0);
        x.setWeight(14, 0);
        checks.due("36 pop", x.pop(), 1);
        checks.due("36 the latest", x.digest(), second);
        checks.due("36 entry", x.entry(3, 15), 4);
        checks.due("36 position", x.position(9), 2);
        checks.due("36 rowAt", x.rowAt(9), 2);
        checks.due("36 pop", x.pop(), 0);
        checks.due("36 the first", x.digest(), first);
        checks.due("36 size", x.size(), 2);
        checks.due("36 entry", x.entry(1, 1), 9);
        checks.due("36 right side", x.setRight(0, 0), 5);
        checks.due("36 weight", x.setWeight(1, 0), 6);
        checks.due("36 position", x.position(0), 1);
        checks.dueThrow("36 no level again", STATE, x::pop);
        popForgets();
    }

    private static void popForgets() {
        SparseFactor x = factored();
        x.solve();
        x.push();
        checks.due("36 factors before", x.hasFactors(), true);
        x.pop();
        checks.due("36 no factors", x.hasFactors(), false);
        checks.dueThrow("36 no solution", NO_ELEMENT, () -> x.component(0));
        checks.due("36 factor again", x.factor(), 2);
        // What a level stores must not follow the object's later changes.
        x.push();
        x.setWeight(0, 1);
        x.update(1);
        checks.due("36 changed", x.entry(0, 0), 3);
        x.pop();
        checks.due("36 restored", x.entry(0, 0), 2);
        checks.due("36 weight restored", x.setWeight(0, 0), 0);
    }

    private static void promise37Digest() {
        SparseFactor x = small();
        x.setRight(0, 11);
        x.setRight(1, 12);
        x.setWeight(0, 13);
        x.setWeight(1, 14);
        x.swap(0, 1);
        checks.due("37 without factors", x.digest(),
                mixed(2, 2, 1, 11, 13, 4, 9, 0, 12, 14, 0, 0));
        x.push();
        x.swap(0, 1);
        x.factor();
        checks.due("37 with factors", x.digest(),
                mixed(2, 2, 0, 11, 13, 4, 9, 1, 12, 14, 1, 1, 2, 1));
        checks.due("37 the same again", x.digest(), x.digest());
        checks.due("37 keeps the factors", x.hasFactors(), true);
        SparseFactor y = factored();
        y.setWeight(0, 1);
        y.update(65519);
        checks.due("37 no pivots when there are no factors", y.digest(),
                mixed(2, 0, 0, 0, 1, 4, 9, 1, 0, 0, 0, 0));
    }

    private static long mixed(long... numbers) {
        long d = 71;
        for (long x : numbers) {
            d = d * 31 + x;
        }
        return d;
    }
}
