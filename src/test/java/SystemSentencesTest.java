import java.io.IOException;

/** The sentences of promises 31 to 34, a test each. */
public final class SystemSentencesTest {
    private static Sentences s;

    public static void main(String[] args) throws IOException {
        s = new Sentences();
        setRight();
        solve();
        component();
        inverse();
        s.end();
    }

    /** {{2, 4}, {4, 9}} with the right sides 2 and 5: the solution is -1 and 1. */
    private static SparseFactor solved() {
        SparseFactor x = Solvers.two(2, 4, 9);
        x.factor();
        x.setRight(0, 2);
        x.setRight(1, 5);
        x.solve();
        return x;
    }

    private static void dueSolution(String when, SparseFactor x) {
        s.due(when + ", component(0)", Checks.outcome(() -> x.component(0)), "65520");
        s.due(when + ", component(1)", Checks.outcome(() -> x.component(1)), "1");
    }

    // ---- promise 31

    private static void setRight() {
        s.under("Promise 31");
        s.test("Sets a right side.", () -> {
            for (int row : new int[] {0, 15}) {
                SparseFactor x = Solvers.unit(16);
                x.setRight(row, 65520);
                x.factor();
                s.due("of one row alone", x.solve(), 1);
                s.due("of row " + row, x.component(row), 65520);
                x.setRight(row, 0);
                s.due("0 again", x.solve(), 0);
            }
            SparseFactor y = Solvers.ready(3);
            y.setRight(2, 9);
            s.due("keeps the factors", y.hasFactors(), true);
            s.due("is no weight", y.setWeight(2, 1), 5);
        });
        s.test("Returns the right side before.", () -> {
            SparseFactor x = Solvers.sized(16);
            s.due("at first", x.setRight(15, 65520), 0);
            s.due("then", x.setRight(15, 65520), 65520);
            s.due("another row", x.setRight(0, 1), 0);
            s.due("to 0", x.setRight(15, 0), 65520);
            s.refused("refused", Refusals.ARGUMENT, () -> x.setRight(0, 65521));
            s.due("after a refused call", x.setRight(0, 2), 1);
        });
        s.test("Throws `IndexOutOfBoundsException` if there is no such row",
                () -> Refusals.indices(s, "row", (x, i) -> x.setRight(i, 7)));
        s.test("Throws `IllegalArgumentException` if value is not 0 to 65520", () -> {
            Refusals.residues(s, (x, value) -> x.setRight(0, value));
            Refusals.residues(s, (x, value) -> x.setRight(2, value));
        });
    }

    // ---- promise 32

    private static void solve() {
        s.under("Promise 32");
        s.test("Computes the solution: for each row, the sum of its entries times the components "
                + "is its right side.", SystemSentencesTest::sumsAreRightSides);
        s.test("It is kept until the next call of solve that throws no exception, setSize or pop.",
                SystemSentencesTest::howLongSolutionStands);
        s.test("Returns how many components are not 0.", () -> {
            for (int n = 1; n <= 16; n++) {
                SparseFactor x = Solvers.unit(n);
                x.factor();
                s.due("none of " + n, x.solve(), 0);
                for (int i = n - 1; i >= 0; i--) {
                    x.setRight(i, 65520);
                    s.due("some of " + n, x.solve(), n - i);
                }
            }
            SparseFactor y = Solvers.two(2, 4, 9);
            y.setRight(0, 2);
            y.setRight(1, 4);
            y.factor();
            s.due("components, not right sides", y.solve(), 1);
        });
        s.test("Throws `IllegalStateException` if there are no factors",
                () -> Refusals.withoutFactors(s, (x, unused) -> x.solve()));
    }

    private static void sumsAreRightSides() {
        SparseFactor one = Solvers.diagonal(65520);
        one.setRight(0, 5);
        one.factor();
        one.solve();
        s.due("one row: 65520 * 65516 = 5", one.component(0), 65516);
        for (int n : new int[] {2, 3, 15, 16}) {
            SparseFactor x = Solvers.full(n, 65501);
            for (int i = 0; i < n; i++) {
                x.setRight(i, 65520 - i * i);
            }
            x.swap(0, n - 1);
            s.due("factor()", x.factor(), n);
            x.solve();
            for (int i = 0; i < n; i++) {
                long sum = 0;
                for (int j = 0; j < n; j++) {
                    sum += (long) (i == j ? 65501 : 1) * x.component(j);
                }
                s.due("row " + i + " of " + n, sum % 65521, 65520 - i * i);
            }
        }
    }

    private interface Step {
        void on(SparseFactor x);
    }

    private static void howLongSolutionStands() {
        stands("nothing", x -> { });
        stands("setEntry", x -> x.setEntry(0, 0, 7));
        stands("setRight", x -> x.setRight(0, 9));
        stands("setWeight", x -> x.setWeight(0, 9));
        stands("swap", x -> x.swap(0, 1));
        stands("minimumDegree", SparseFactor::minimumDegree);
        stands("reverse", SparseFactor::reverse);
        stands("factor", SparseFactor::factor);
        stands("factor that finds none", x -> {
            x.setEntry(0, 0, 0);
            x.factor();
        });
        stands("update", x -> {
            x.setWeight(0, 1);
            x.update(1);
        });
        stands("update that finds no factors", x -> {
            x.setWeight(0, 1);
            x.update(65519);
        });
        stands("inverse", x -> x.inverse(1, 1));
        stands("determinant", SparseFactor::determinant);
        stands("push", SparseFactor::push);
        stands("what tells the state", Look::at);
        stands("setSize refused", x -> Checks.outcome(() -> x.setSize(0)));
        stands("pop refused", x -> Checks.outcome(x::pop));
        stands("solve refused", x -> {
            x.setRight(0, 9);
            x.swap(0, 0);
            s.refused("solve", Refusals.STATE, x::solve);
        });
        ends("setSize", x -> x.setSize(2));
        ends("pop", x -> {
            x.push();
            x.pop();
        });
        SparseFactor y = solved();
        y.setRight(0, 0);
        y.setRight(1, 0);
        dueSolution("before the next solve", y);
        y.solve();
        s.due("after the next solve", y.component(0), 0);
        s.due("after the next solve", y.component(1), 0);
    }

    private static void stands(String name, Step step) {
        SparseFactor x = solved();
        step.on(x);
        dueSolution(name, x);
    }

    private static void ends(String name, Step step) {
        SparseFactor x = solved();
        step.on(x);
        s.refused(name, Refusals.NO_ELEMENT, () -> x.component(0));
        s.refused(name, Refusals.NO_ELEMENT, () -> x.component(1));
    }

    // ---- promise 33

    private static void component() {
        s.under("Promise 33");
        s.test("Returns its component in the latest solution.", () -> {
            SparseFactor x = Solvers.unit(16);
            for (int i = 0; i < 16; i++) {
                x.setRight(i, 65520 - i);
            }
            x.swap(0, 15);
            x.factor();
            x.solve();
            for (int i = 0; i < 16; i++) {
                s.due("by rows, component(" + i + ")", x.component(i), 65520 - i);
            }
            x.setRight(15, 3);
            s.due("the latest is still that", x.component(15), 65505);
            x.solve();
            s.due("the latest", x.component(15), 3);
            x.setEntry(15, 15, 3);
            s.due("a changed matrix does not matter", x.component(15), 3);
            x.factor();
            x.solve();
            s.due("the latest again", x.component(15), 1);
        });
        s.test("Throws `IndexOutOfBoundsException` if there is no such row",
                () -> Refusals.indices(s, "row", SparseFactor::component));
        s.test("Throws `java` .util.NoSuchElementException if there is no solution", () -> {
            noSolution("a new object", new SparseFactor());
            SparseFactor factored = Solvers.two(2, 4, 9);
            factored.factor();
            noSolution("factors alone", factored);
            factored.inverse(0, 0);
            noSolution("an inverse is no solution", factored);
            SparseFactor refused = Solvers.two(2, 4, 9);
            s.refused("solve()", Refusals.STATE, refused::solve);
            noSolution("a refused solve", refused);
            SparseFactor sized = Solvers.ready(16);
            sized.setSize(16);
            noSolution("setSize", sized);
            SparseFactor popped = Solvers.ready(3);
            popped.push();
            popped.pop();
            noSolution("pop", popped);
            SparseFactor zero = Solvers.unit(2);
            zero.factor();
            zero.solve();
            s.due("a solution of 0 is one", zero.component(1), 0);
        });
    }

    private static void noSolution(String when, SparseFactor x) {
        for (int i = 0; i < x.size(); i++) {
            int row = i;
            s.refused(when, Refusals.NO_ELEMENT, () -> x.component(row));
        }
    }

    // ---- promise 34

    private static void inverse() {
        s.under("Promise 34");
        s.test("Returns the entry of the inverse matrix.", () -> {
            SparseFactor one = Solvers.diagonal(2);
            one.factor();
            s.due("one row: 2 * 32761 = 1", one.inverse(0, 0), 32761);
            SparseFactor x = solved();
            s.due("inverse(0, 0) * 2", x.inverse(0, 0) * 2L % 65521, 9);
            s.due("inverse(0, 1)", x.inverse(0, 1), 65519);
            s.due("inverse(1, 0)", x.inverse(1, 0), 65519);
            s.due("inverse(1, 1)", x.inverse(1, 1), 1);
            x.swap(0, 1);
            x.factor();
            s.due("by rows, in another order", x.inverse(1, 1), 1);
            s.due("by rows, in another order", x.inverse(0, 0) * 2L % 65521, 9);
            // Of ones and the unit matrix: the unit matrix less 1 / 17 everywhere.
            SparseFactor full = Solvers.full(16, 2);
            full.swap(0, 15);
            full.factor();
            for (int i = 0; i < 16; i++) {
                for (int j = 0; j < 16; j++) {
                    s.due("inverse * 17", full.inverse(i, j) * 17L % 65521,
                            i == j ? 16 : 65520);
                }
            }
            SparseFactor apart = Solvers.diagonal(65520, 3, 65520);
            apart.swap(0, 1);
            apart.factor();
            s.due("65520 * 65520 = 1", apart.inverse(0, 0), 65520);
            s.due("3 * 43681 = 1", apart.inverse(1, 1), 43681);
            s.due("rows apart", apart.inverse(0, 2), 0);
        });
        s.test("Throws `IndexOutOfBoundsException` if there is no such row or column", () -> {
            Refusals.indices(s, "row", (x, i) -> x.inverse(i, 0));
            Refusals.indices(s, "column", (x, j) -> x.inverse(0, j));
            Refusals.indices(s, "row and column", (x, i) -> x.inverse(i, i));
        });
        s.test("Throws `IllegalStateException` if there are no factors",
                () -> Refusals.withoutFactors(s, (x, i) -> x.inverse(i, i)));
    }
}
