import java.math.BigInteger;
import java.util.ArrayDeque;
import java.util.ArrayList;
import java.util.Collections;
import java.util.Deque;
import java.util.List;
import java.util.NoSuchElementException;

/**
 * The document read word for word and without regard to speed, by other means than the program's:
 * boolean tables, lists and big integers. The random runs compare the program with it.
 */
final class PlainModel {
    private static final BigInteger PRIME = BigInteger.valueOf(65521);

    private static final class Stored {
        int n;
        long[][] entries;
        List<Integer> order;
        long[] rights;
        long[] weights;

        Stored copy() {
            Stored c = new Stored();
            c.n = n;
            c.entries = new long[n][];
            for (int i = 0; i < n; i++) {
                c.entries[i] = entries[i].clone();
            }
            c.order = new ArrayList<>(order);
            c.rights = rights.clone();
            c.weights = weights.clone();
            return c;
        }
    }

    private Stored now;
    private final Deque<Stored> levels = new ArrayDeque<>();
    private long[] pivots;
    private long[][] lower;
    private long[] solution;

    PlainModel() {
        setSize(1);
    }

    long setSize(int n) {
        argument(n >= 1 && n <= 16);
        now = new Stored();
        now.n = n;
        now.entries = new long[n][n];
        now.order = new ArrayList<>();
        for (int i = 0; i < n; i++) {
            now.order.add(i);
        }
        now.rights = new long[n];
        now.weights = new long[n];
        pivots = null;
        solution = null;
        return n;
    }

    long size() {
        return now.n;
    }

    long setEntry(int i, int j, int value) {
        index(i);
        index(j);
        residue(value);
        long before = now.entries[i][j];
        now.entries[i][j] = value;
        now.entries[j][i] = value;
        pivots = null;
        return before;
    }

    long entry(int i, int j) {
        index(i);
        index(j);
        return now.entries[i][j];
    }

    long linkCount() {
        return pairs(linked());
    }

    /** By the sum over all permutations, gathered by the set of columns that are used. */
    long determinant() {
        int n = now.n;
        BigInteger[] sums = new BigInteger[1 << n];
        sums[0] = BigInteger.ONE;
        for (int used = 1; used < 1 << n; used++) {
            int row = Integer.bitCount(used) - 1;
            BigInteger sum = BigInteger.ZERO;
            for (int j = 0; j < n; j++) {
                if ((used >> j & 1) == 1 && now.entries[row][j] != 0) {
                    int inverted = Integer.bitCount(used >> (j + 1));
                    BigInteger term =
                            sums[used ^ 1 << j].multiply(BigInteger.valueOf(now.entries[row][j]));
                    sum = inverted % 2 == 0 ? sum.add(term) : sum.subtract(term);
                }
            }
            sums[used] = sum.mod(PRIME);
        }
        return sums[(1 << n) - 1].mod(PRIME).longValue();
    }

    long swap(int p, int q) {
        index(p);
        index(q);
        Collections.swap(now.order, p, q);
        pivots = null;
        return p == q ? 0 : 1;
    }

    long minimumDegree() {
        boolean[][] joined = linked();
        List<Integer> left = new ArrayList<>();
        for (int i = 0; i < now.n; i++) {
            left.add(i);
        }
        List<Integer> order = new ArrayList<>();
        while (!left.isEmpty()) {
            int best = -1;
            int fewest = 99;
            for (int i : left) {
                int degree = 0;
                for (int j : left) {
                    degree += joined[i][j] ? 1 : 0;
                }
                if (degree < fewest) {
                    fewest = degree;
                    best = i;
                }
            }
            order.add(best);
            left.remove(Integer.valueOf(best));
            for (int a : left) {
                for (int b : left) {
                    joined[a][b] |= a != b && joined[best][a] && joined[best][b];
                }
            }
        }
        now.order = order;
        pivots = null;
        return fillCount();
    }

    long reverse() {
        Collections.reverse(now.order);
        pivots = null;
        return fillCount();
    }

    long position(int i) {
        index(i);
        return now.order.indexOf(i);
    }

    long rowAt(int p) {
        index(p);
        return now.order.get(p);
    }

    long bandwidth() {
        long greatest = 0;
        for (int i = 0; i < now.n; i++) {
            for (int j = 0; j < now.n; j++) {
                if (linked()[i][j]) {
                    greatest = Math.max(greatest, Math.abs(position(i) - position(j)));
                }
            }
        }
        return greatest;
    }

    long profile() {
        long sum = 0;
        for (int i = 0; i < now.n; i++) {
            long smallest = position(i);
            for (int j = 0; j < now.n; j++) {
                if (linked()[i][j]) {
                    smallest = Math.min(smallest, position(j));
                }
            }
            sum += position(i) - smallest;
        }
        return sum;
    }

    long isJoined(int i, int j) {
        index(i);
        index(j);
        return joined()[i][j] ? 1 : 0;
    }

    long fillCount() {
        return pairs(joined()) - pairs(linked());
    }

    long width(int i) {
        index(i);
        boolean[][] joined = joined();
        int count = 0;
        for (int j = 0; j < now.n; j++) {
            count += joined[i][j] && position(j) > position(i) ? 1 : 0;
        }
        return count;
    }

    long work() {
        long sum = 0;
        for (int i = 0; i < now.n; i++) {
            sum += width(i) * width(i);
        }
        return sum;
    }

    long parent(int i) {
        index(i);
        boolean[][] joined = joined();
        int best = -1;
        for (int j = 0; j < now.n; j++) {
            if (joined[i][j] && position(j) > position(i)
                    && (best < 0 || position(j) < position(best))) {
                best = j;
            }
        }
        return best;
    }

    long depth(int i) {
        index(i);
        return ancestors(i).size();
    }

    long subtree(int i) {
        index(i);
        int count = 1;
        for (int k = 0; k < now.n; k++) {
            count += ancestors(k).contains(i) ? 1 : 0;
        }
        return count;
    }

    long height() {
        int greatest = 0;
        for (int i = 0; i < now.n; i++) {
            greatest = Math.max(greatest, ancestors(i).size());
        }
        return greatest + 1;
    }

    long meeting(int i, int j) {
        index(i);
        index(j);
        int best = -1;
        for (int k = 0; k < now.n; k++) {
            boolean above = (k == i || ancestors(i).contains(k))
                    && (k == j || ancestors(j).contains(k));
            if (above && (best < 0 || position(k) < position(best))) {
                best = k;
            }
        }
        return best;
    }

    long reached(int mask) {
        argument(mask >= 0 && mask >> now.n == 0);
        int rows = 0;
        for (int i = 0; i < now.n; i++) {
            if ((mask >> i & 1) == 1) {
                rows |= 1 << i;
                for (int k : ancestors(i)) {
                    rows |= 1 << k;
                }
            }
        }
        return rows;
    }

    long factor() {
        int n = now.n;
        pivots = null;
        BigInteger[] d = new BigInteger[n];
        BigInteger[][] l = new BigInteger[n][n];
        for (int k = 0; k < n; k++) {
            for (int i = k; i < n; i++) {
                BigInteger sum = BigInteger.ZERO;
                for (int m = 0; m < k; m++) {
                    sum = sum.add(l[i][m].multiply(l[k][m]).multiply(d[m]));
                }
                long a = now.entries[now.order.get(i)][now.order.get(k)];
                BigInteger rest = BigInteger.valueOf(a).subtract(sum).mod(PRIME);
                if (i > k) {
                    l[i][k] = rest.multiply(d[k].modInverse(PRIME)).mod(PRIME);
                } else if (rest.signum() == 0) {
                    return k;
                } else {
                    d[k] = rest;
                    l[k][k] = BigInteger.ONE;
                }
            }
        }
        pivots = new long[n];
        lower = new long[n][n];
        for (int i = 0; i < n; i++) {
            pivots[i] = d[i].longValue();
            for (int k = 0; k <= i; k++) {
                lower[i][k] = l[i][k].longValue();
            }
        }
        return n;
    }

    long hasFactors() {
        return pivots != null ? 1 : 0;
    }

    long pivot(int p) {
        index(p);
        state(pivots != null);
        return pivots[p];
    }

    long lower(int p, int q) {
        index(p);
        index(q);
        state(pivots != null);
        return lower[p][q];
    }

    long setWeight(int i, int value) {
        index(i);
        residue(value);
        long before = now.weights[i];
        now.weights[i] = value;
        return before;
    }

    long update(int factor) {
        residue(factor);
        state(pivots != null);
        for (int i = 0; i < now.n; i++) {
            for (int j = 0; j < now.n; j++) {
                now.entries[i][j] = BigInteger.valueOf(factor)
                        .multiply(BigInteger.valueOf(now.weights[i]))
                        .multiply(BigInteger.valueOf(now.weights[j]))
                        .add(BigInteger.valueOf(now.entries[i][j])).mod(PRIME).longValue();
            }
        }
        return factor();
    }

    long setRight(int i, int value) {
        index(i);
        residue(value);
        long before = now.rights[i];
        now.rights[i] = value;
        return before;
    }

    long solve() {
        state(pivots != null);
        solution = solutionFor(now.rights);
        int count = 0;
        for (long c : solution) {
            count += c != 0 ? 1 : 0;
        }
        return count;
    }

    long component(int i) {
        index(i);
        if (solution == null) {
            throw new NoSuchElementException();
        }
        return solution[i];
    }

    long inverse(int i, int j) {
        index(i);
        index(j);
        state(pivots != null);
        long[] unit = new long[now.n];
        unit[j] = 1;
        return solutionFor(unit)[i];
    }

    long push() {
        state(levels.size() < 6);
        levels.push(now.copy());
        return levels.size();
    }

    long pop() {
        state(!levels.isEmpty());
        now = levels.pop();
        pivots = null;
        solution = null;
        return levels.size();
    }

    long digest() {
        List<Long> numbers = new ArrayList<>();
        numbers.add((long) now.n);
        for (int i = 0; i < now.n; i++) {
            for (int j = 0; j <= i; j++) {
                numbers.add(now.entries[i][j]);
            }
            numbers.add(position(i));
            numbers.add(now.rights[i]);
            numbers.add(now.weights[i]);
        }
        numbers.add((long) levels.size());
        numbers.add(hasFactors());
        if (pivots != null) {
            for (long d : pivots) {
                numbers.add(d);
            }
        }
        long d = 71;
        for (long x : numbers) {
            d = d * 31 + x;
        }
        return d;
    }

    private boolean[][] linked() {
        boolean[][] linked = new boolean[now.n][now.n];
        for (int i = 0; i < now.n; i++) {
            for (int j = 0; j < now.n; j++) {
                linked[i][j] = i != j && now.entries[i][j] != 0;
            }
        }
        return linked;
    }

    private boolean[][] joined() {
        boolean[][] joined = linked();
        for (int p = 0; p < now.n; p++) {
            int r = now.order.get(p);
            for (int a = p + 1; a < now.n; a++) {
                for (int b = p + 1; b < now.n; b++) {
                    int i = now.order.get(a);
                    int j = now.order.get(b);
                    joined[i][j] |= i != j && joined[r][i] && joined[r][j];
                }
            }
        }
        return joined;
    }

    private static int pairs(boolean[][] table) {
        int count = 0;
        for (int i = 0; i < table.length; i++) {
            for (int j = 0; j < i; j++) {
                count += table[i][j] ? 1 : 0;
            }
        }
        return count;
    }

    private List<Integer> ancestors(int i) {
        List<Integer> found = new ArrayList<>();
        for (int k = (int) parent(i); k >= 0; k = (int) parent(k)) {
            found.add(k);
        }
        return found;
    }

    /** By Gauss and Jordan on the matrix itself, without the factors. */
    private long[] solutionFor(long[] right) {
        int n = now.n;
        long p = PRIME.longValue();
        long[][] t = new long[n][];
        for (int i = 0; i < n; i++) {
            t[i] = java.util.Arrays.copyOf(now.entries[i], n + 1);
            t[i][n] = right[i];
        }
        for (int k = 0; k < n; k++) {
            int r = k;
            while (t[r][k] == 0) {
                r++;
            }
            long[] kept = t[r];
            t[r] = t[k];
            t[k] = kept;
            long inv = BigInteger.valueOf(t[k][k]).modInverse(PRIME).longValue();
            for (int j = 0; j <= n; j++) {
                t[k][j] = t[k][j] * inv % p;
            }
            for (int i = 0; i < n; i++) {
                long m = t[i][k];
                for (int j = 0; i != k && j <= n; j++) {
                    t[i][j] = Math.floorMod(t[i][j] - m * t[k][j], p);
                }
            }
        }
        long[] result = new long[n];
        for (int i = 0; i < n; i++) {
            result[i] = t[i][n];
        }
        return result;
    }

    private void index(int i) {
        if (i < 0 || i >= now.n) {
            throw new IndexOutOfBoundsException();
        }
    }

    private static void residue(int value) {
        argument(value >= 0 && value <= 65520);
    }

    private static void argument(boolean right) {
        if (!right) {
            throw new IllegalArgumentException();
        }
    }

    private static void state(boolean right) {
        if (!right) {
            throw new IllegalStateException();
        }
    }
}
