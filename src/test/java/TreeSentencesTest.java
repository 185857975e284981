import java.io.IOException;

/** The sentences of promises 15 to 24, a test each. */
public final class TreeSentencesTest {
    private static Sentences s;

    public static void main(String[] args) throws IOException {
        s = new Sentences();
        isJoined();
        fillCount();
        width();
        work();
        parent();
        depth();
        subtree();
        height();
        meeting();
        reached();
        s.end();
    }

    /**
     * Two trees: rows 0 and 1 below 2, row 2 below 5; row 3 below 4. Row 6 is a root alone. In
     * this order no pair is fill.
     */
    private static SparseFactor forest() {
        return Solvers.linked(7, 0, 2, 1, 2, 2, 5, 3, 4);
    }

    // ---- promise 15

    private static void isJoined() {
        s.under("Promise 15");
        s.test("Returns whether they are joined; false if they are the same.", () -> {
            SparseFactor star = Solvers.star(16);
            s.due("linked", star.isJoined(0, 15), true);
            s.due("linked, exchanged", star.isJoined(15, 0), true);
            s.due("by fill", star.isJoined(1, 15), true);
            s.due("by fill, exchanged", star.isJoined(15, 1), true);
            star.reverse();
            s.due("no fill in this order", star.isJoined(1, 15), false);
            s.due("linked in any order", star.isJoined(0, 15), true);
            SparseFactor full = Solvers.full(16, 1);
            for (int i = 0; i < 16; i++) {
                s.due("the same, full", full.isJoined(i, i), false);
                s.due("the same, empty", Solvers.sized(16).isJoined(i, i), false);
            }
            s.due("one row", Solvers.diagonal(1).isJoined(0, 0), false);
            s.due("empty", Solvers.sized(16).isJoined(14, 15), false);
        });
        s.test("Throws `IndexOutOfBoundsException` if there is no such row", () -> {
            Refusals.indices(s, "i", (x, i) -> x.isJoined(i, 0) ? 1 : 0);
            Refusals.indices(s, "j", (x, j) -> x.isJoined(0, j) ? 1 : 0);
            Refusals.indices(s, "i and j", (x, i) -> x.isJoined(i, i) ? 1 : 0);
        });
    }

    // ---- promises 16 to 18

    private static void fillCount() {
        s.under("Promise 16");
        s.test("Returns the number of fill pairs.", () -> {
            s.due("one row", new SparseFactor().fillCount(), 0);
            s.due("empty", Solvers.sized(16).fillCount(), 0);
            s.due("full", Solvers.full(16, 1).fillCount(), 0);
            s.due("the most", Solvers.star(16).fillCount(), 105);
            s.due("a path", Solvers.path(16).fillCount(), 0);
            s.due("one pair", Solvers.linked(3, 0, 1, 0, 2).fillCount(), 1);
            s.due("diagonal alone", Solvers.unit(16).fillCount(), 0);
        });
    }

    private static void width() {
        s.under("Promise 17");
        s.test("Returns how many rows with greater positions are joined with it.", () -> {
            SparseFactor star = Solvers.star(16);
            for (int i = 0; i < 16; i++) {
                s.due("all joined, width(" + i + ")", star.width(i), 15 - i);
            }
            star.swap(0, 15);
            s.due("all have smaller positions", star.width(0), 0);
            s.due("one greater", star.width(15), 1);
            star.swap(14, 15);
            s.due("one of fifteen is greater", star.width(0), 1);
            s.due("the last position", star.width(14), 0);
            for (int i = 0; i < 16; i++) {
                s.due("empty", Solvers.sized(16).width(i), 0);
            }
            s.due("one row", Solvers.diagonal(3).width(0), 0);
        });
        s.test("Throws `IndexOutOfBoundsException` if there is no such row",
                () -> Refusals.indices(s, "row", SparseFactor::width));
    }

    private static void work() {
        s.under("Promise 18");
        s.test("Returns the sum of the squares of the widths of all rows.", () -> {
            s.due("one row", Solvers.diagonal(3).work(), 0);
            s.due("empty", Solvers.sized(16).work(), 0);
            s.due("full: 225 + 196 + .. + 1", Solvers.full(16, 1).work(), 1240);
            s.due("full by fill", Solvers.star(16).work(), 1240);
            s.due("a path", Solvers.path(16).work(), 15);
            s.due("forest", forest().work(), 4);
            SparseFactor x = Solvers.linked(4, 0, 1, 0, 2, 0, 3);
            s.due("9 + 4 + 1", x.work(), 14);
            x.reverse();
            s.due("1 + 1 + 1", x.work(), 3);
        });
    }

    // ---- promises 19 to 22

    private static void parent() {
        s.under("Promise 19");
        s.test("Returns its parent; -1 if it is a root.", () -> {
            int[] parents = {2, 2, 5, 4, -1, -1, -1};
            for (int i = 0; i < 7; i++) {
                s.due("parent(" + i + ")", forest().parent(i), parents[i]);
            }
            SparseFactor path = Solvers.path(16);
            s.due("the last position", path.parent(15), -1);
            s.due("before the last", path.parent(14), 15);
            path.reverse();
            s.due("reversed, the last position", path.parent(0), -1);
            s.due("reversed, row 0 is a parent", path.parent(1), 0);
            s.due("one row", Solvers.diagonal(3).parent(0), -1);
        });
        s.test("Throws `IndexOutOfBoundsException` if there is no such row",
                () -> Refusals.indices(s, "row", SparseFactor::parent));
    }

    private static void depth() {
        s.under("Promise 20");
        s.test("Returns the number of its ancestors.", () -> {
            int[] depths = {2, 2, 1, 1, 0, 0, 0};
            for (int i = 0; i < 7; i++) {
                s.due("depth(" + i + ")", forest().depth(i), depths[i]);
            }
            s.due("the deepest", Solvers.path(16).depth(0), 15);
            s.due("a root", Solvers.path(16).depth(15), 0);
            s.due("by fill", Solvers.star(16).depth(1), 14);
            s.due("one row", new SparseFactor().depth(0), 0);
            s.due("empty", Solvers.sized(16).depth(0), 0);
        });
        s.test("Throws `IndexOutOfBoundsException` if there is no such row",
                () -> Refusals.indices(s, "row", SparseFactor::depth));
    }

    private static void subtree() {
        s.under("Promise 21");
        s.test("Returns how many rows have it as an ancestor, and itself.", () -> {
            int[] counts = {1, 1, 3, 1, 2, 4, 1};
            for (int i = 0; i < 7; i++) {
                s.due("subtree(" + i + ")", forest().subtree(i), counts[i]);
            }
            s.due("none but itself", Solvers.path(16).subtree(0), 1);
            s.due("all", Solvers.path(16).subtree(15), 16);
            SparseFactor star = Solvers.star(16);
            star.swap(0, 15);
            s.due("all are children", star.subtree(0), 16);
            s.due("a child", star.subtree(15), 1);
            s.due("one row", new SparseFactor().subtree(0), 1);
            s.due("empty", Solvers.sized(16).subtree(15), 1);
        });
        s.test("Throws `IndexOutOfBoundsException` if there is no such row",
                () -> Refusals.indices(s, "row", SparseFactor::subtree));
    }

    private static void height() {
        s.under("Promise 22");
        s.test("Returns the greatest number of ancestors of a row, plus 1.", () -> {
            s.due("one row", new SparseFactor().height(), 1);
            s.due("empty", Solvers.sized(16).height(), 1);
            s.due("the greatest", Solvers.path(16).height(), 16);
            s.due("full", Solvers.full(16, 1).height(), 16);
            s.due("forest", forest().height(), 3);
            SparseFactor star = Solvers.star(16);
            star.swap(0, 15);
            s.due("children alone", star.height(), 2);
            s.due("the first tree is not the highest",
                    Solvers.linked(7, 0, 1, 2, 3, 3, 4, 4, 5).height(), 4);
        });
    }

    // ---- promise 23

    private static void meeting() {
        s.under("Promise 23");
        s.test("Tells the row with the smallest position that is, for each of two rows, the row "
                + "itself or one of its ancestors.", () -> {
            SparseFactor x = forest();
            s.due("two children", x.meeting(0, 1), 2);
            s.due("a child and its parent", x.meeting(0, 2), 2);
            s.due("a parent and its child", x.meeting(2, 0), 2);
            s.due("a row and the root", x.meeting(1, 5), 5);
            for (int i = 0; i < 7; i++) {
                s.due("a row and itself", x.meeting(i, i), i);
            }
            SparseFactor path = Solvers.path(16);
            s.due("the first and the last", path.meeting(0, 15), 15);
            s.due("not the root, but the first that both have", path.meeting(0, 1), 1);
            path.reverse();
            s.due("reversed", path.meeting(0, 15), 0);
            s.due("positions, not numbers", path.meeting(14, 15), 14);
            s.due("one row", new SparseFactor().meeting(0, 0), 0);
        });
        s.test("Returns this row; -1 if there is none.", () -> {
            SparseFactor x = forest();
            s.due("two trees", x.meeting(0, 3), -1);
            s.due("two roots", x.meeting(5, 4), -1);
            s.due("a root alone", x.meeting(6, 0), -1);
            s.due("row 0", Solvers.sized(16).meeting(0, 0), 0);
            s.due("empty", Solvers.sized(16).meeting(0, 15), -1);
            s.due("empty, the last row", Solvers.sized(16).meeting(15, 15), 15);
        });
        s.test("Throws `IndexOutOfBoundsException` if there is no such row", () -> {
            Refusals.indices(s, "i", (x, i) -> x.meeting(i, 0));
            Refusals.indices(s, "j", (x, j) -> x.meeting(0, j));
            Refusals.indices(s, "i and j", (x, i) -> x.meeting(i, i));
        });
    }

    // ---- promise 24

    private static void reached() {
        s.under("Promise 24");
        s.test("Tells which rows are reached from some rows: these rows and all their ancestors.",
                () -> {
                    SparseFactor x = forest();
                    s.due("no rows", x.reached(0), 0);
                    s.due("a root", x.reached(1 << 6), 1 << 6);
                    s.due("row 0", x.reached(1), 1 + 4 + 32);
                    s.due("rows 0 and 1", x.reached(3), 1 + 2 + 4 + 32);
                    s.due("rows 1 and 3", x.reached(2 + 8), 2 + 4 + 32 + 8 + 16);
                    s.due("a row and its ancestor", x.reached(1 + 32), 1 + 4 + 32);
                    s.due("all rows", x.reached(127), 127);
                    s.due("all by one", Solvers.path(16).reached(1), 65535);
                });
        s.test("Returns the sum of the powers 2^i for the rows i that are reached.", () -> {
            SparseFactor x = Solvers.sized(16);
            for (int i = 0; i < 16; i++) {
                s.due("row " + i, x.reached(1 << i), 1 << i);
            }
            s.due("all", x.reached(65535), 65535);
            SparseFactor y = Solvers.linked(16, 0, 15);
            y.reverse();
            s.due("rows, not positions", y.reached(1 << 15), 32769);
            s.due("rows, not positions", y.reached(1), 1);
            s.due("one row", new SparseFactor().reached(1), 1);
        });
        s.test("Throws `IllegalArgumentException` if mask is negative, or has a bit of a row that "
                + "does not exist", TreeSentencesTest::reachedRefuses);
    }

    private static void reachedRefuses() {
        for (int n = 1; n <= 16; n++) {
            SparseFactor x = Solvers.ready(n);
            int all = (1 << n) - 1;
            s.taken("no bit", () -> x.reached(0));
            s.taken("all bits of " + n, () -> x.reached(all));
            s.taken("the last bit of " + n, () -> x.reached((all + 1) / 2));
            for (int k = n; k < 32; k++) {
                int bit = 1 << k;
                s.refused("bit " + k + " of " + n, Refusals.ARGUMENT, () -> x.reached(bit));
                s.refused("bits 0 and " + k, Refusals.ARGUMENT, () -> x.reached(bit | 1));
            }
            for (int bad : new int[] {-1, -2, ~all, Integer.MIN_VALUE, Integer.MAX_VALUE}) {
                s.refused("mask " + bad, Refusals.ARGUMENT, () -> x.reached(bad));
            }
        }
    }
}
