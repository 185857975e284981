import java.util.NoSuchElementException;

/**
 * A direct solver for sparse symmetric systems over the residues modulo 65521. It orders the rows
 * so that little fill arises, knows the elimination tree, factors the matrix, solves systems, and
 * keeps the factors up to date when a matrix of rank one is added.
 *
 * <p>All arrays are made once, with the object, and used again by every call. Sets of rows are held
 * as masks: bit i stands for row i.
 */
public final class SparseFactor {
    private static final int PRIME = 65521;
    private static final int PRIME_BITS = 16;
    private static final int MOST_ROWS = 16;
    private static final int MOST_LEVELS = 6;
    private static final int NONE = -1;
    private static final long DIGEST_START = 71;
    private static final long DIGEST_STEP = 31;

    private final Problem problem;
    private final Problem[] levels;
    private final Elimination elimination;
    private final Factors factors;
    private final Reduction reduction;
    private final int[] vector;
    private final int[] solution;
    private boolean solved;
    private int levelCount;

    public SparseFactor() {
        problem = new Problem();
        levels = new Problem[MOST_LEVELS];
        for (int k = 0; k < MOST_LEVELS; k++) {
            levels[k] = new Problem();
        }
        elimination = new Elimination();
        factors = new Factors();
        reduction = new Reduction();
        vector = new int[MOST_ROWS];
        solution = new int[MOST_ROWS];
        solved = false;
        levelCount = 0;
    }

    // ---- matrix

    public int setSize(int n) throws IllegalArgumentException {
        if (n < 1 || n > MOST_ROWS) {
            throw new IllegalArgumentException("the number of rows is not 1 to 16");
        }
        problem.begin(n);
        factors.forget();
        solved = false;
        return n;
    }

    public int size() {
        return problem.rows;
    }

    public int setEntry(int i, int j, int value)
            throws IndexOutOfBoundsException, IllegalArgumentException {
        needRow(i);
        needRow(j);
        needResidue(value);
        int before = problem.entryAt(i, j);
        problem.putEntry(i, j, value);
        factors.forget();
        return before;
    }

    public int entry(int i, int j) throws IndexOutOfBoundsException {
        needRow(i);
        needRow(j);
        return problem.entryAt(i, j);
    }

    public int linkCount() {
        return problem.countLinks();
    }

    public int determinant() {
        return reduction.determinantOf(problem);
    }

    // ---- order

    public boolean swap(int p, int q) throws IndexOutOfBoundsException {
        needPosition(p);
        needPosition(q);
        problem.exchange(p, q);
        factors.forget();
        return p != q;
    }

    public int minimumDegree() {
        elimination.orderByDegree(problem);
        factors.forget();
        return countFill();
    }

    public int reverse() {
        problem.turnRound();
        factors.forget();
        return countFill();
    }

    public int position(int i) throws IndexOutOfBoundsException {
        needRow(i);
        return problem.places[i];
    }

    public int rowAt(int p) throws IndexOutOfBoundsException {
        needPosition(p);
        return problem.order[p];
    }

    public int bandwidth() {
        int greatest = 0;
        for (int i = 0; i < problem.rows; i++) {
            greatest = Math.max(greatest, problem.reachBack(i));
        }
        return greatest;
    }

    public int profile() {
        int sum = 0;
        for (int i = 0; i < problem.rows; i++) {
            sum += problem.reachBack(i);
        }
        return sum;
    }

    // ---- elimination and tree

    public boolean isJoined(int i, int j) throws IndexOutOfBoundsException {
        needRow(i);
        needRow(j);
        elimination.run(problem);
        return has(elimination.later[i], j) || has(elimination.later[j], i);
    }

    public int fillCount() {
        return countFill();
    }

    public int width(int i) throws IndexOutOfBoundsException {
        needRow(i);
        elimination.run(problem);
        return Integer.bitCount(elimination.later[i]);
    }

    public int work() {
        elimination.run(problem);
        int sum = 0;
        for (int i = 0; i < problem.rows; i++) {
            int wide = Integer.bitCount(elimination.later[i]);
            sum += wide * wide;
        }
        return sum;
    }

    public int parent(int i) throws IndexOutOfBoundsException {
        needRow(i);
        elimination.run(problem);
        return problem.firstOf(elimination.later[i]);
    }

    public int depth(int i) throws IndexOutOfBoundsException {
        needRow(i);
        elimination.run(problem);
        return Integer.bitCount(elimination.paths[i]) - 1;
    }

    public int subtree(int i) throws IndexOutOfBoundsException {
        needRow(i);
        elimination.run(problem);
        int count = 0;
        for (int k = 0; k < problem.rows; k++) {
            if (has(elimination.paths[k], i)) {
                count++;
            }
        }
        return count;
    }

    public int height() {
        elimination.run(problem);
        int greatest = 0;
        for (int i = 0; i < problem.rows; i++) {
            greatest = Math.max(greatest, Integer.bitCount(elimination.paths[i]));
        }
        return greatest;
    }

    public int meeting(int i, int j) throws IndexOutOfBoundsException {
        needRow(i);
        needRow(j);
        elimination.run(problem);
        return problem.firstOf(elimination.paths[i] & elimination.paths[j]);
    }

    public int reached(int mask) throws IllegalArgumentException {
        if (mask < 0 || mask > problem.allRows()) {
            throw new IllegalArgumentException("the mask has a bit of a row that does not exist");
        }
        elimination.run(problem);
        int rows = 0;
        for (int i = 0; i < problem.rows; i++) {
            if (has(mask, i)) {
                rows |= elimination.paths[i];
            }
        }
        return rows;
    }

    // ---- factors

    public int factor() {
        return factors.find(problem);
    }

    public boolean hasFactors() {
        return factors.known;
    }

    public int pivot(int p) throws IndexOutOfBoundsException, IllegalStateException {
        needPosition(p);
        needFactors();
        return factors.pivots[p];
    }

    public int lower(int p, int q) throws IndexOutOfBoundsException, IllegalStateException {
        needPosition(p);
        needPosition(q);
        needFactors();
        if (p == q) {
            return 1;
        }
        return p < q ? 0 : factors.below[cell(p, q)];
    }

    public int setWeight(int i, int value)
            throws IndexOutOfBoundsException, IllegalArgumentException {
        needRow(i);
        needResidue(value);
        int before = problem.weights[i];
        problem.weights[i] = value;
        return before;
    }

    public int update(int factor) throws IllegalArgumentException, IllegalStateException {
        needResidue(factor);
        needFactors();
        problem.addWeights(factor);
        // With so few rows the factors are found afresh: that gives what changing them would give.
        return factors.find(problem);
    }

    // ---- systems

    public int setRight(int i, int value)
            throws IndexOutOfBoundsException, IllegalArgumentException {
        needRow(i);
        needResidue(value);
        int before = problem.rights[i];
        problem.rights[i] = value;
        return before;
    }

    public int solve() throws IllegalStateException {
        needFactors();
        int n = problem.rows;
        for (int p = 0; p < n; p++) {
            vector[p] = problem.rights[problem.order[p]];
        }
        factors.resolve(vector);
        int count = 0;
        for (int p = 0; p < n; p++) {
            solution[problem.order[p]] = vector[p];
            if (vector[p] != 0) {
                count++;
            }
        }
        solved = true;
        return count;
    }

    public int component(int i) throws IndexOutOfBoundsException, NoSuchElementException {
        needRow(i);
        if (!solved) {
            throw new NoSuchElementException("there is no solution");
        }
        return solution[i];
    }

    public int inverse(int i, int j) throws IndexOutOfBoundsException, IllegalStateException {
        needRow(i);
        needRow(j);
        needFactors();
        for (int p = 0; p < problem.rows; p++) {
            vector[p] = problem.order[p] == j ? 1 : 0;
        }
        factors.resolve(vector);
        return vector[problem.places[i]];
    }

    // ---- levels

    public int push() throws IllegalStateException {
        if (levelCount >= MOST_LEVELS) {
            throw new IllegalStateException("there are 6 levels");
        }
        levels[levelCount].copyFrom(problem);
        levelCount++;
        return levelCount;
    }

    public int pop() throws IllegalStateException {
        if (levelCount <= 0) {
            throw new IllegalStateException("there is no level");
        }
        levelCount--;
        problem.copyFrom(levels[levelCount]);
        factors.forget();
        solved = false;
        return levelCount;
    }

    public long digest() {
        long d = mix(DIGEST_START, problem.rows);
        for (int i = 0; i < problem.rows; i++) {
            for (int j = 0; j <= i; j++) {
                d = mix(d, problem.entryAt(i, j));
            }
            d = mix(d, problem.places[i]);
            d = mix(d, problem.rights[i]);
            d = mix(d, problem.weights[i]);
        }
        d = mix(d, levelCount);
        if (!factors.known) {
            return mix(d, 0);
        }
        d = mix(d, 1);
        for (int p = 0; p < problem.rows; p++) {
            d = mix(d, factors.pivots[p]);
        }
        return d;
    }

    // ---- help for the face

    private int countFill() {
        elimination.run(problem);
        return elimination.countJoined(problem.rows) - problem.countLinks();
    }

    private void needRow(int i) {
        if (i < 0 || i >= problem.rows) {
            throw new IndexOutOfBoundsException("there is no such row");
        }
    }

    private void needPosition(int p) {
        if (p < 0 || p >= problem.rows) {
            throw new IndexOutOfBoundsException("there is no such position");
        }
    }

    private void needFactors() {
        if (!factors.known) {
            throw new IllegalStateException("there are no factors");
        }
    }

    private static void needResidue(int value) {
        if (value < 0 || value >= PRIME) {
            throw new IllegalArgumentException("the value is not 0 to 65520");
        }
    }

    private static long mix(long d, long x) {
        return d * DIGEST_STEP + x;
    }

    /** The place of row i and column j in an array that holds a whole matrix. */
    private static int cell(int i, int j) {
        return i * MOST_ROWS + j;
    }

    private static int bit(int i) {
        return 1 << i;
    }

    private static boolean has(int mask, int i) {
        return (mask & bit(i)) != 0;
    }

    // ---- residues

    private static int plus(int a, int b) {
        int sum = a + b;
        return sum >= PRIME ? sum - PRIME : sum;
    }

    private static int minus(int a, int b) {
        int difference = a - b;
        return difference < 0 ? difference + PRIME : difference;
    }

    private static int times(int a, int b) {
        // The product of two residues may be too great for an int.
        return (int) ((long) a * b % PRIME);
    }

    /** The residue whose product with a is 1, if a is not 0: by Fermat, a to the PRIME - 2. */
    private static int reciprocal(int a) {
        int result = 1;
        int square = a;
        for (int k = 0; k < PRIME_BITS; k++) {
            if (has(PRIME - 2, k)) {
                result = times(result, square);
            }
            square = times(square, square);
        }
        return result;
    }

    /** What a level stores: the number of rows, the matrix, the order, right sides and weights. */
    private static final class Problem {
        int rows;
        final int[] entries;
        /** The row at each position. */
        final int[] order;
        /** The position of each row. */
        final int[] places;
        final int[] rights;
        final int[] weights;

        Problem() {
            rows = 1;
            entries = new int[MOST_ROWS * MOST_ROWS];
            order = new int[MOST_ROWS];
            places = new int[MOST_ROWS];
            rights = new int[MOST_ROWS];
            weights = new int[MOST_ROWS];
        }

        void begin(int n) {
            rows = n;
            for (int i = 0; i < n; i++) {
                for (int j = 0; j < n; j++) {
                    entries[cell(i, j)] = 0;
                }
                place(i, i);
                rights[i] = 0;
                weights[i] = 0;
            }
        }

        void copyFrom(Problem other) {
            rows = other.rows;
            System.arraycopy(other.entries, 0, entries, 0, MOST_ROWS * MOST_ROWS);
            System.arraycopy(other.order, 0, order, 0, MOST_ROWS);
            System.arraycopy(other.places, 0, places, 0, MOST_ROWS);
            System.arraycopy(other.rights, 0, rights, 0, MOST_ROWS);
            System.arraycopy(other.weights, 0, weights, 0, MOST_ROWS);
        }

        int entryAt(int i, int j) {
            return entries[cell(i, j)];
        }

        void putEntry(int i, int j, int value) {
            entries[cell(i, j)] = value;
            entries[cell(j, i)] = value;
        }

        /** Gives the entry of the rows with the positions p and q. */
        int entryAtPositions(int p, int q) {
            return entries[cell(order[p], order[q])];
        }

        void addWeights(int factor) {
            for (int i = 0; i < rows; i++) {
                int scaled = times(factor, weights[i]);
                for (int j = 0; j <= i; j++) {
                    putEntry(i, j, plus(entryAt(i, j), times(scaled, weights[j])));
                }
            }
        }

        int allRows() {
            return bit(rows) - 1;
        }

        int linksOf(int i) {
            int mask = 0;
            for (int j = 0; j < rows; j++) {
                if (j != i && entryAt(i, j) != 0) {
                    mask |= bit(j);
                }
            }
            return mask;
        }

        int countLinks() {
            int ends = 0;
            for (int i = 0; i < rows; i++) {
                ends += Integer.bitCount(linksOf(i));
            }
            return ends / 2;
        }

        /** Tells how far the rows linked with row i go back before its own position. */
        int reachBack(int i) {
            int smallest = places[i];
            for (int j = 0; j < rows; j++) {
                if (entryAt(i, j) != 0) {
                    smallest = Math.min(smallest, places[j]);
                }
            }
            return places[i] - smallest;
        }

        void place(int row, int p) {
            order[p] = row;
            places[row] = p;
        }

        void exchange(int p, int q) {
            int first = order[p];
            int second = order[q];
            place(first, q);
            place(second, p);
        }

        void turnRound() {
            for (int p = 0; p < rows / 2; p++) {
                exchange(p, rows - 1 - p);
            }
        }

        /** Gives the row of a mask that has the smallest position; NONE if the mask is empty. */
        int firstOf(int mask) {
            for (int p = 0; p < rows; p++) {
                if (has(mask, order[p])) {
                    return order[p];
                }
            }
            return NONE;
        }
    }

    /** The joined pairs of an elimination, and the tree that they make. */
    private static final class Elimination {
        private final int[] joined;
        /** For each row, the rows with greater positions that are joined with it. */
        final int[] later;
        /** For each row, the row itself and its ancestors. */
        final int[] paths;

        Elimination() {
            joined = new int[MOST_ROWS];
            later = new int[MOST_ROWS];
            paths = new int[MOST_ROWS];
        }

        void run(Problem problem) {
            joinLinked(problem);
            int waiting = problem.allRows();
            for (int p = 0; p < problem.rows; p++) {
                int row = problem.order[p];
                waiting &= ~bit(row);
                later[row] = joined[row] & waiting;
                joinAll(later[row]);
            }
            findPaths(problem);
        }

        void orderByDegree(Problem problem) {
            joinLinked(problem);
            int waiting = problem.allRows();
            for (int p = 0; p < problem.rows; p++) {
                int row = lowestDegree(waiting);
                if (row == NONE) {
                    return;
                }
                problem.place(row, p);
                waiting &= ~bit(row);
                joinAll(joined[row] & waiting);
            }
        }

        int countJoined(int rows) {
            int count = 0;
            for (int i = 0; i < rows; i++) {
                count += Integer.bitCount(later[i]);
            }
            return count;
        }

        private void joinLinked(Problem problem) {
            for (int i = 0; i < problem.rows; i++) {
                joined[i] = problem.linksOf(i);
            }
        }

        private void joinAll(int mask) {
            for (int i = 0; i < MOST_ROWS; i++) {
                if (has(mask, i)) {
                    joined[i] |= mask & ~bit(i);
                }
            }
        }

        /** Gives the waiting row that is joined with the fewest others, the first of several. */
        private int lowestDegree(int waiting) {
            int best = NONE;
            int fewest = MOST_ROWS;
            for (int i = 0; i < MOST_ROWS; i++) {
                int degree = Integer.bitCount(joined[i] & waiting);
                if (has(waiting, i) && degree < fewest) {
                    best = i;
                    fewest = degree;
                }
            }
            return best;
        }

        /** Goes from the last position to the first, so that a parent's path is always known. */
        private void findPaths(Problem problem) {
            for (int p = problem.rows - 1; p >= 0; p--) {
                int row = problem.order[p];
                int above = problem.firstOf(later[row]);
                paths[row] = bit(row) | (above == NONE ? 0 : paths[above]);
            }
        }
    }

    /** The pivots D and the triangle L, if they are known. All is numbered by positions. */
    private static final class Factors {
        boolean known;
        private int rows;
        final int[] pivots;
        private final int[] reciprocals;
        /** L below its diagonal; what stands elsewhere is of no meaning. */
        final int[] below;

        Factors() {
            known = false;
            rows = 0;
            pivots = new int[MOST_ROWS];
            reciprocals = new int[MOST_ROWS];
            below = new int[MOST_ROWS * MOST_ROWS];
        }

        void forget() {
            known = false;
        }

        /** Returns the number of rows, or the position of the first pivot that is 0. */
        int find(Problem problem) {
            known = false;
            rows = problem.rows;
            for (int k = 0; k < rows; k++) {
                int pivot = remainder(problem, k, k);
                if (pivot == 0) {
                    return k;
                }
                pivots[k] = pivot;
                reciprocals[k] = reciprocal(pivot);
                for (int i = k + 1; i < rows; i++) {
                    below[cell(i, k)] = times(remainder(problem, i, k), reciprocals[k]);
                }
            }
            known = true;
            return rows;
        }

        /** Turns a right side into its solution, in the same array. */
        void resolve(int[] right) {
            for (int p = 0; p < rows; p++) {
                for (int m = 0; m < p; m++) {
                    right[p] = minus(right[p], times(below[cell(p, m)], right[m]));
                }
            }
            for (int p = 0; p < rows; p++) {
                right[p] = times(right[p], reciprocals[p]);
            }
            for (int p = rows - 1; p >= 0; p--) {
                for (int m = p + 1; m < rows; m++) {
                    right[p] = minus(right[p], times(below[cell(m, p)], right[m]));
                }
            }
        }

        /** A(i, k) without what the pivots before k explain. */
        private int remainder(Problem problem, int i, int k) {
            int rest = problem.entryAtPositions(i, k);
            for (int m = 0; m < k; m++) {
                int product = times(below[cell(i, m)], below[cell(k, m)]);
                rest = minus(rest, times(product, pivots[m]));
            }
            return rest;
        }
    }

    /** Finds determinants by exchanging rows where needed, so that it does without factors. */
    private static final class Reduction {
        private final int[] cells;

        Reduction() {
            cells = new int[MOST_ROWS * MOST_ROWS];
        }

        int determinantOf(Problem problem) {
            int rows = problem.rows;
            System.arraycopy(problem.entries, 0, cells, 0, MOST_ROWS * MOST_ROWS);
            int product = 1;
            for (int k = 0; k < rows; k++) {
                int found = rowWithEntry(k, rows);
                if (found == NONE) {
                    return 0;
                }
                if (found != k) {
                    exchangeRows(found, k, rows);
                    product = minus(0, product);
                }
                product = times(product, cells[cell(k, k)]);
                clearBelow(k, rows);
            }
            return product;
        }

        private int rowWithEntry(int k, int rows) {
            for (int i = k; i < rows; i++) {
                if (cells[cell(i, k)] != 0) {
                    return i;
                }
            }
            return NONE;
        }

        private void exchangeRows(int a, int b, int rows) {
            for (int j = 0; j < rows; j++) {
                int kept = cells[cell(a, j)];
                cells[cell(a, j)] = cells[cell(b, j)];
                cells[cell(b, j)] = kept;
            }
        }

        private void clearBelow(int k, int rows) {
            int share = reciprocal(cells[cell(k, k)]);
            for (int i = k + 1; i < rows; i++) {
                int multiple = times(cells[cell(i, k)], share);
                for (int j = k; j < rows; j++) {
                    cells[cell(i, j)] =
                            minus(cells[cell(i, j)], times(multiple, cells[cell(k, j)]));
                }
            }
        }
    }
}
