import java.io.IOException;
import java.math.BigInteger;

/** The sentences of promises 35 to 37, a test each. */
public final class LevelSentencesTest {
    private static Sentences s;

    public static void main(String[] args) throws IOException {
        s = new Sentences();
        push();
        pop();
        digest();
        s.end();
    }

    // ---- promise 35

    private static void push() {
        s.under("Promise 35");
        s.test("Opens a level.", () -> {
            SparseFactor x = Solvers.ready(3);
            s.refused("no level before", Refusals.STATE, x::pop);
            SparseFactor y = Solvers.ready(3);
            long before = y.digest();
            y.push();
            s.due("a level more", y.digest() - before,
                    // Behind the number of levels stand 1 and three pivots.
                    31L * 31 * 31 * 31);
            s.due("the size stays", y.size(), 3);
            s.due("the factors stay", y.hasFactors(), true);
            s.due("the solution stays", y.component(0), x.component(0));
            s.taken("a level after", y::pop);
            s.refused("and no more", Refusals.STATE, y::pop);
        });
        s.test("Returns the number of levels afterwards.", () -> {
            SparseFactor x = new SparseFactor();
            for (int k = 1; k <= 6; k++) {
                s.due("push()", x.push(), k);
            }
            x.pop();
            x.pop();
            s.due("after two pops", x.push(), 5);
            x.setSize(16);
            s.due("after setSize", x.push(), 6);
        });
        s.test("Throws `IllegalStateException` if there are 6 levels", () -> {
            for (int levels = 0; levels < 6; levels++) {
                SparseFactor x = withLevels(levels);
                s.taken("a push on " + levels, x::push);
            }
            SparseFactor y = withLevels(6);
            long before = y.digest();
            s.refused("a push on 6", Refusals.STATE, y::push);
            s.refused("a push on 6 again", Refusals.STATE, y::push);
            s.due("digest()", y.digest(), before);
            y.setSize(16);
            s.refused("setSize closes none", Refusals.STATE, y::push);
            s.due("the sixth level is as it was", y.pop(), 5);
            s.due("the sixth level is as it was", y.setRight(0, 0), 6);
        });
    }

    /** Level k has the right side k; the object itself has one more. */
    private static SparseFactor withLevels(int count) {
        SparseFactor x = Solvers.sized(2);
        for (int k = 1; k <= count; k++) {
            x.setRight(0, k);
            x.push();
        }
        x.setRight(0, count + 1);
        return x;
    }

    // ---- promise 36

    private static void pop() {
        s.under("Promise 36");
        s.test("Closes the latest level and restores what it stored.", () -> {
            SparseFactor x = withLevels(6);
            for (int k = 6; k >= 1; k--) {
                x.setRight(0, 99);
                x.pop();
                s.due("level " + k, x.setRight(0, 0), k);
            }
            restores(1, 16);
            restores(16, 1);
            restores(16, 16);
            restores(15, 16);
            SparseFactor y = Solvers.ready(2);
            y.push();
            y.setWeight(0, 5);
            y.update(1);
            y.swap(0, 1);
            y.pop();
            s.due("before the update", y.entry(0, 0), 2);
            s.due("before the swap", y.rowAt(0), 0);
            s.due("the weight", y.setWeight(0, 0), 1);
        });
        s.test("Returns the number of levels afterwards.", () -> {
            SparseFactor x = withLevels(6);
            for (int k = 5; k >= 0; k--) {
                s.due("pop()", x.pop(), k);
            }
            x.push();
            s.due("of one", x.pop(), 0);
        });
        s.test("Throws `IllegalStateException` if there is no level", () -> {
            SparseFactor fresh = new SparseFactor();
            s.refused("a new object", Refusals.STATE, fresh::pop);
            SparseFactor x = withLevels(1);
            s.taken("the only one", x::pop);
            long before = x.digest();
            s.refused("none is left", Refusals.STATE, x::pop);
            s.refused("none is left, again", Refusals.STATE, x::pop);
            s.due("digest()", x.digest(), before);
            s.due("a push still opens the first", x.push(), 1);
            SparseFactor y = Solvers.ready(3);
            s.refused("none", Refusals.STATE, y::pop);
            s.due("the factors stay", y.hasFactors(), true);
            s.taken("the solution stays", () -> y.component(0));
        });
    }

    /** The object has the one size on the level and the other after it. */
    private static void restores(int size, int later) {
        SparseFactor x = Solvers.ready(size);
        x.swap(0, size - 1);
        long before = x.digest();
        x.push();
        x.setSize(later);
        for (int i = 0; i < later; i++) {
            x.setEntry(i, 0, 60000 + i);
            x.setRight(i, 50000 + i);
            x.setWeight(i, 40000 + i);
        }
        x.reverse();
        x.pop();
        s.due("digest() with " + size + " rows, " + later + " later", x.digest(), before);
    }

    // ---- promise 37

    private static void digest() {
        s.under("Promise 37");
        s.test("Computes a checksum.", () -> {
            SparseFactor x = Solvers.ready(3);
            s.due("twice the same", x.digest(), x.digest());
            String before = Look.through(Solvers.ready(3));
            s.due("changes nothing", Look.through(x), before);
        });
        s.test("A number d starts with 71; for each of the following numbers x, d becomes d * 31 + "
                + "x, which wraps around as a 64-bit integer: n; for each row its entries with the "
                + "columns from 0 to its own number, its position, its right side and its weight; "
                + "the number of levels; 1 if there are factors, else 0, and, if there are, the "
                + "pivots.", LevelSentencesTest::checksum);
        s.test("Returns d.", () -> {
            s.due("a new object", new SparseFactor().digest(), due(1, 0, 0, 0, 0, 0, 0));
            SparseFactor negative = Solvers.sized(2);
            int value = 0;
            while (negative.digest() >= 0 && value < 60000) {
                value += 1600;
                negative.setEntry(0, 0, value);
            }
            s.due("a negative one", negative.digest() < 0, true);
            s.due("a negative one", negative.digest(),
                    due(2, value, 0, 0, 0, 0, 0, 1, 0, 0, 0, 0));
        });
    }

    /** With numbers of any length, cut to 64 bits only in the end. */
    private static long due(long... numbers) {
        BigInteger d = BigInteger.valueOf(71);
        for (long x : numbers) {
            d = d.multiply(BigInteger.valueOf(31)).add(BigInteger.valueOf(x));
        }
        return d.longValue();
    }

    private static void checksum() {
        SparseFactor one = Solvers.diagonal(65520);
        one.setRight(0, 65519);
        one.setWeight(0, 65518);
        s.due("no wrap-around", one.digest(), due(1, 65520, 0, 65519, 65518, 0, 0));
        one.factor();
        s.due("and one pivot", one.digest(), due(1, 65520, 0, 65519, 65518, 0, 1, 65520));
        SparseFactor x = Solvers.two(2, 4, 9);
        x.setRight(0, 11);
        x.setRight(1, 12);
        x.setWeight(0, 13);
        x.setWeight(1, 14);
        x.swap(0, 1);
        s.due("no factors", x.digest(), due(2, 2, 1, 11, 13, 4, 9, 0, 12, 14, 0, 0));
        x.swap(0, 1);
        x.factor();
        s.due("factors", x.digest(), due(2, 2, 0, 11, 13, 4, 9, 1, 12, 14, 0, 1, 2, 1));
        for (int levels = 1; levels <= 6; levels++) {
            x.push();
            s.due(levels + " levels", x.digest(),
                    due(2, 2, 0, 11, 13, 4, 9, 1, 12, 14, levels, 1, 2, 1));
        }
        x.solve();
        s.due("the solution does not count", x.digest(),
                due(2, 2, 0, 11, 13, 4, 9, 1, 12, 14, 6, 1, 2, 1));
        x.pop();
        s.due("after pop", x.digest(), due(2, 2, 0, 11, 13, 4, 9, 1, 12, 14, 5, 0));
        x.setEntry(0, 0, 0);
        x.factor();
        s.due("factor() found none", x.digest(), due(2, 0, 0, 11, 13, 4, 9, 1, 12, 14, 5, 0));
        pivotsByPositions();
        checksumOfSixteen();
    }

    private static void pivotsByPositions() {
        SparseFactor x = Solvers.diagonal(3, 5, 7);
        x.swap(0, 2);
        x.factor();
        s.due("pivots in their order", x.digest(),
                due(3, 3, 2, 0, 0, 0, 5, 1, 0, 0, 0, 0, 7, 0, 0, 0, 0, 1, 7, 5, 3));
        x.swap(1, 2);
        x.factor();
        s.due("the rows 2, 0, 1 have the positions 0, 1, 2", x.digest(),
                due(3, 3, 1, 0, 0, 0, 5, 2, 0, 0, 0, 0, 7, 0, 0, 0, 0, 1, 7, 3, 5));
    }

    private static void checksumOfSixteen() {
        SparseFactor x = Solvers.sized(16);
        long[] numbers = new long[1 + 136 + 48 + 2];
        int k = 0;
        numbers[k++] = 16;
        for (int i = 0; i < 16; i++) {
            for (int j = 0; j <= i; j++) {
                x.setEntry(j, i, 65520 - k);
                numbers[k] = 65520 - k;
                k++;
            }
            numbers[k++] = 15 - i;
            x.setRight(i, 65520 - k);
            numbers[k] = 65520 - k;
            k++;
            x.setWeight(i, 65520 - k);
            numbers[k] = 65520 - k;
            k++;
        }
        x.reverse();
        x.push();
        numbers[k++] = 1;
        numbers[k++] = 0;
        s.due("sixteen rows", x.digest(), due(numbers));
        s.due("all numbers", k, numbers.length);
    }
}
