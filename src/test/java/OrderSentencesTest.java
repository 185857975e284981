import java.io.IOException;

/** The sentences of promises 8 to 14, a test each. */
public final class OrderSentencesTest {
    private static Sentences s;

    public static void main(String[] args) throws IOException {
        s = new Sentences();
        swap();
        minimumDegree();
        reverse();
        position();
        rowAt();
        bandwidth();
        profile();
        s.end();
    }

    private static void dueOrder(String when, SparseFactor x, int... rows) {
        for (int p = 0; p < rows.length; p++) {
            s.due(when + ", rowAt(" + p + ")", x.rowAt(p), rows[p]);
            s.due(when + ", position(" + rows[p] + ")", x.position(rows[p]), p);
        }
    }

    private static int[] upTo(int n) {
        int[] rows = new int[n];
        for (int i = 0; i < n; i++) {
            rows[i] = i;
        }
        return rows;
    }

    // ---- promise 8

    private static void swap() {
        s.under("Promise 8");
        s.test("Exchanges two positions.", OrderSentencesTest::exchanges);
        s.test("Returns whether they are different.", () -> {
            SparseFactor x = Solvers.sized(16);
            s.due("swap(0, 15)", x.swap(0, 15), true);
            s.due("swap(0, 15) again", x.swap(0, 15), true);
            s.due("swap(15, 0)", x.swap(15, 0), true);
            s.due("swap(0, 1)", x.swap(0, 1), true);
            for (int p = 0; p < 16; p++) {
                s.due("swap(" + p + ", " + p + ")", x.swap(p, p), false);
            }
            s.due("one row", new SparseFactor().swap(0, 0), false);
        });
        s.test("Throws `IndexOutOfBoundsException` if there is no such position", () -> {
            Refusals.indices(s, "p", (x, p) -> x.swap(p, 0) ? 1 : 0);
            Refusals.indices(s, "q", (x, q) -> x.swap(0, q) ? 1 : 0);
            Refusals.indices(s, "p and q", (x, p) -> x.swap(p, p) ? 1 : 0);
        });
    }

    private static void exchanges() {
        SparseFactor x = Solvers.sized(4);
        x.swap(0, 3);
        dueOrder("the first and the last", x, 3, 1, 2, 0);
        x.swap(3, 1);
        dueOrder("positions, not rows", x, 3, 0, 2, 1);
        x.swap(2, 2);
        dueOrder("a position with itself", x, 3, 0, 2, 1);
        x.swap(1, 3);
        x.swap(3, 0);
        dueOrder("and back", x, 0, 1, 2, 3);
        SparseFactor one = new SparseFactor();
        one.swap(0, 0);
        dueOrder("one row", one, 0);
        SparseFactor sixteen = Solvers.sized(16);
        sixteen.swap(0, 15);
        s.due("of sixteen", sixteen.rowAt(0), 15);
        s.due("of sixteen", sixteen.rowAt(15), 0);
        s.due("of sixteen", sixteen.rowAt(1), 1);
        s.due("of sixteen", sixteen.rowAt(14), 14);
    }

    // ---- promise 9

    private static void minimumDegree() {
        s.under("Promise 9");
        s.test("Orders the rows by minimum degree: of the rows that have no position yet, the next "
                + "position gets the one that is joined with the fewest other such rows (of "
                + "several, the one with the smallest number); then these others become all joined "
                + "with each other.", OrderSentencesTest::ordersByDegree);
        s.test("At first, rows are joined if they are linked.",
                OrderSentencesTest::joinedIfLinked);
        s.test("Returns the number of fill pairs with the new order.", () -> {
            s.due("one row", new SparseFactor().minimumDegree(), 0);
            s.due("empty", Solvers.sized(16).minimumDegree(), 0);
            s.due("full", Solvers.full(16, 1).minimumDegree(), 0);
            SparseFactor star = Solvers.star(16);
            s.due("before", star.fillCount(), 105);
            s.due("less than before", star.minimumDegree(), 0);
            SparseFactor ring = Solvers.path(16);
            ring.setEntry(0, 15, 1);
            s.due("a ring of sixteen", ring.minimumDegree(), 13);
            s.due("as fillCount()", ring.fillCount(), 13);
        });
    }

    private static void ordersByDegree() {
        SparseFactor one = new SparseFactor();
        one.minimumDegree();
        dueOrder("one row", one, 0);
        SparseFactor empty = Solvers.sized(16);
        empty.reverse();
        empty.minimumDegree();
        dueOrder("all degrees 0", empty, upTo(16));
        SparseFactor full = Solvers.full(16, 0);
        full.reverse();
        full.minimumDegree();
        dueOrder("all degrees the same", full, upTo(16));
        SparseFactor star = Solvers.star(16);
        star.minimumDegree();
        dueOrder("degree 15 waits", star, 1, 2, 3, 4, 5, 6, 7, 8, 9, 10, 11, 12, 13, 14, 0, 15);
        // Row 3 is linked with three rows, but when rows 4 and 5 have positions, only row 0 waits.
        SparseFactor waiting = Solvers.linked(6, 0, 1, 0, 2, 1, 2, 3, 4, 3, 5, 3, 0);
        waiting.minimumDegree();
        dueOrder("only waiting rows count", waiting, 4, 5, 3, 0, 1, 2);
        // Row 0 joins rows 2 and 3, so that they have degree 2 then, as row 1 has.
        SparseFactor joins = Solvers.linked(4, 0, 2, 0, 3, 1, 2, 1, 3);
        joins.reverse();
        joins.minimumDegree();
        dueOrder("the others become joined", joins, 0, 1, 2, 3);
    }

    private static void joinedIfLinked() {
        SparseFactor x = Solvers.linked(3, 0, 1, 0, 2);
        x.fillCount();
        x.minimumDegree();
        dueOrder("fill of the order before does not count", x, 1, 0, 2);
        x.setEntry(0, 2, 0);
        x.setEntry(1, 2, 65520);
        x.minimumDegree();
        dueOrder("the links of now", x, 0, 1, 2);
        x.setEntry(1, 2, 0);
        x.minimumDegree();
        dueOrder("one link", x, 2, 0, 1);
        x.setEntry(0, 0, 5);
        x.setEntry(2, 2, 5);
        x.minimumDegree();
        dueOrder("an entry of the diagonal is no link", x, 2, 0, 1);
    }

    // ---- promise 10

    private static void reverse() {
        s.under("Promise 10");
        s.test("Reverses the order.", () -> {
            SparseFactor x = Solvers.sized(5);
            x.swap(0, 1);
            x.reverse();
            dueOrder("an odd number", x, 4, 3, 2, 0, 1);
            x.reverse();
            dueOrder("twice", x, 1, 0, 2, 3, 4);
            SparseFactor even = Solvers.sized(16);
            even.reverse();
            dueOrder("sixteen", even, 15, 14, 13, 12, 11, 10, 9, 8, 7, 6, 5, 4, 3, 2, 1, 0);
            SparseFactor two = Solvers.sized(2);
            two.reverse();
            dueOrder("two", two, 1, 0);
            SparseFactor one = new SparseFactor();
            one.reverse();
            dueOrder("one", one, 0);
        });
        s.test("Returns the number of fill pairs with the new order.", () -> {
            SparseFactor x = Solvers.star(16);
            s.due("before", x.fillCount(), 105);
            s.due("no fill then", x.reverse(), 0);
            s.due("and all again", x.reverse(), 105);
            s.due("one row", new SparseFactor().reverse(), 0);
            s.due("full", Solvers.full(16, 1).reverse(), 0);
            s.due("empty", Solvers.sized(16).reverse(), 0);
        });
    }

    // ---- promises 11 and 12

    private static void position() {
        s.under("Promise 11");
        s.test("Returns its position.", () -> {
            SparseFactor x = Solvers.sized(16);
            x.swap(0, 15);
            x.swap(15, 7);
            s.due("position(0)", x.position(0), 7);
            s.due("position(7)", x.position(7), 15);
            s.due("position(15)", x.position(15), 0);
            s.due("position(14)", x.position(14), 14);
            s.due("one row", new SparseFactor().position(0), 0);
        });
        s.test("Throws `IndexOutOfBoundsException` if there is no such row",
                () -> Refusals.indices(s, "row", SparseFactor::position));
    }

    private static void rowAt() {
        s.under("Promise 12");
        s.test("Returns the row that has it.", () -> {
            SparseFactor x = Solvers.sized(16);
            x.swap(0, 15);
            x.swap(15, 7);
            s.due("rowAt(7)", x.rowAt(7), 0);
            s.due("rowAt(15)", x.rowAt(15), 7);
            s.due("rowAt(0)", x.rowAt(0), 15);
            s.due("rowAt(14)", x.rowAt(14), 14);
            s.due("one row", new SparseFactor().rowAt(0), 0);
        });
        s.test("Throws `IndexOutOfBoundsException` if there is no such position",
                () -> Refusals.indices(s, "position", SparseFactor::rowAt));
    }

    // ---- promises 13 and 14

    private static void bandwidth() {
        s.under("Promise 13");
        s.test("Returns the greatest difference of the positions of two linked rows; 0 if no rows "
                + "are linked.", () -> {
            s.due("one row", Solvers.diagonal(5).bandwidth(), 0);
            s.due("no links", Solvers.unit(16).bandwidth(), 0);
            s.due("the greatest of all", Solvers.linked(16, 0, 15).bandwidth(), 15);
            s.due("the smallest of links", Solvers.path(16).bandwidth(), 1);
            s.due("full", Solvers.full(16, 1).bandwidth(), 15);
            SparseFactor x = Solvers.linked(6, 1, 2, 3, 5);
            s.due("of two", x.bandwidth(), 2);
            x.swap(0, 1);
            x.swap(1, 5);
            s.due("positions 0 and 2, 3 and 1", x.bandwidth(), 2);
            x.swap(2, 5);
            s.due("positions 0 and 5", x.bandwidth(), 5);
            x.setEntry(1, 2, 0);
            s.due("that link is gone", x.bandwidth(), 2);
            x.setEntry(3, 5, 0);
            s.due("no link is left", x.bandwidth(), 0);
        });
    }

    private static void profile() {
        s.under("Promise 14");
        s.test("Returns the sum, over all rows, of its position minus the smallest position of the "
                + "row itself and the rows that are linked with it.", () -> {
            s.due("one row", Solvers.diagonal(5).profile(), 0);
            s.due("no links", Solvers.unit(16).profile(), 0);
            s.due("full", Solvers.full(16, 0).profile(), 120);
            s.due("a path", Solvers.path(16).profile(), 15);
            s.due("row 0 first", Solvers.star(16).profile(), 120);
            SparseFactor star = Solvers.star(16);
            star.swap(0, 15);
            s.due("row 0 last", star.profile(), 15);
            star.swap(15, 14);
            s.due("row 0 before the last", star.profile(), 15);
            SparseFactor x = Solvers.linked(4, 0, 1, 1, 3);
            s.due("1 of row 1, 2 of row 3", x.profile(), 3);
            x.reverse();
            s.due("2 of row 1, 1 of row 0", x.profile(), 3);
            x.swap(0, 3);
            s.due("positions 0 and 2, 2 and 3", x.profile(), 3);
            x.setEntry(0, 1, 0);
            s.due("positions 2 and 3 alone", x.profile(), 1);
        });
    }
}
