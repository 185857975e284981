/** Objects that the tests of the sentences begin with. */
final class Solvers {
    static final int[] NO_RESIDUES = {-1, 65521, 65522, -65520, -65521, 131042, 1 << 16,
        Integer.MIN_VALUE, Integer.MAX_VALUE};
    static final int[] EDGE_RESIDUES = {0, 1, 65519, 65520};

    private Solvers() {
    }

    /** Numbers that are no rows, columns or positions of a matrix with n rows. */
    static int[] beyond(int n) {
        return new int[] {-1, n, n + 1, -n, 16, 17, 32, -32, 256, 1 << 16, Integer.MIN_VALUE,
            Integer.MIN_VALUE + 1, Integer.MAX_VALUE};
    }

    static SparseFactor sized(int n) {
        SparseFactor x = new SparseFactor();
        x.setSize(n);
        return x;
    }

    /** Links are given as pairs of rows, with the entry 1. */
    static SparseFactor linked(int n, int... pairs) {
        SparseFactor x = sized(n);
        for (int k = 0; k < pairs.length; k += 2) {
            x.setEntry(pairs[k], pairs[k + 1], 1);
        }
        return x;
    }

    /** Row 0 is linked with all others. */
    static SparseFactor star(int n) {
        SparseFactor x = sized(n);
        for (int i = 1; i < n; i++) {
            x.setEntry(0, i, 1);
        }
        return x;
    }

    /** Each row is linked with the next. */
    static SparseFactor path(int n) {
        SparseFactor x = sized(n);
        for (int i = 1; i < n; i++) {
            x.setEntry(i - 1, i, 1);
        }
        return x;
    }

    /** All entries are 1, but for those of the diagonal, which are given. */
    static SparseFactor full(int n, int diagonal) {
        SparseFactor x = sized(n);
        for (int i = 0; i < n; i++) {
            for (int j = 0; j <= i; j++) {
                x.setEntry(i, j, i == j ? diagonal : 1);
            }
        }
        return x;
    }

    static SparseFactor diagonal(int... values) {
        SparseFactor x = sized(values.length);
        for (int i = 0; i < values.length; i++) {
            x.setEntry(i, i, values[i]);
        }
        return x;
    }

    static SparseFactor unit(int n) {
        int[] ones = new int[n];
        java.util.Arrays.fill(ones, 1);
        return diagonal(ones);
    }

    /** The matrix {{a, b}, {b, c}}. */
    static SparseFactor two(int a, int b, int c) {
        SparseFactor x = diagonal(a, c);
        x.setEntry(0, 1, b);
        return x;
    }

    /**
     * Factors and a solution stand, and no right side, weight or component is 0. The object had
     * sixteen rows with other numbers before, in another order.
     */
    static SparseFactor ready(int n) {
        SparseFactor x = sized(16);
        for (int i = 0; i < 16; i++) {
            x.setEntry(i, i, 65520);
            x.setEntry(i, 15 - i, 40000 + i);
            x.setRight(i, 60000 + i);
            x.setWeight(i, 50000 + i);
        }
        x.reverse();
        x.setSize(n);
        for (int i = 0; i < n; i++) {
            x.setEntry(i, i, i + 2);
            x.setRight(i, i * i + 3);
            x.setWeight(i, 2 * i + 1);
            if (i > 0) {
                x.setEntry(i - 1, i, 1);
            }
        }
        if (x.factor() != n || x.solve() != n) {
            throw new IllegalStateException("the tests begin with another matrix than meant");
        }
        return x;
    }

    /** The same without factors; the solution stays. */
    static SparseFactor unfactored(int n) {
        SparseFactor x = ready(n);
        x.swap(0, 0);
        return x;
    }
}
