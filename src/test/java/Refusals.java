/** Arguments at the edges and beyond them, for matrices of every size. */
final class Refusals {
    static final Class<IndexOutOfBoundsException> INDEX = IndexOutOfBoundsException.class;
    static final Class<IllegalArgumentException> ARGUMENT = IllegalArgumentException.class;
    static final Class<IllegalStateException> STATE = IllegalStateException.class;
    static final Class<java.util.NoSuchElementException> NO_ELEMENT =
            java.util.NoSuchElementException.class;

    /** A call of the face with one argument that is too small, too great, or just right. */
    interface Try {
        long with(SparseFactor x, int argument);
    }

    private Refusals() {
    }

    /** The argument is a row, a column or a position; all else about the call is right. */
    static void indices(Sentences s, String name, Try call) {
        for (int n = 1; n <= 16; n++) {
            SparseFactor x = Solvers.ready(n);
            long before = x.digest();
            for (int bad : Solvers.beyond(n)) {
                s.refused(name + " " + bad + " of " + n, INDEX, () -> call.with(x, bad));
            }
            s.due(name + " refused, digest", x.digest(), before);
            for (int good : new int[] {0, n / 2, n - 1}) {
                SparseFactor y = Solvers.ready(n);
                s.taken(name + " " + good + " of " + n, () -> call.with(y, good));
            }
        }
    }

    /** The argument is a residue; all else about the call is right. */
    static void residues(Sentences s, Try call) {
        SparseFactor x = Solvers.ready(3);
        long before = x.digest();
        for (int bad : Solvers.NO_RESIDUES) {
            s.refused("value " + bad, ARGUMENT, () -> call.with(x, bad));
        }
        s.due("refused, digest", x.digest(), before);
        for (int good : Solvers.EDGE_RESIDUES) {
            SparseFactor y = Solvers.ready(3);
            s.taken("value " + good, () -> call.with(y, good));
        }
    }

    /** The call is right but for the factors, which it needs and which are not there. */
    static void withoutFactors(Sentences s, Try call) {
        SparseFactor never = Solvers.two(2, 4, 9);
        SparseFactor zeroPivot = Solvers.two(2, 4, 8);
        zeroPivot.factor();
        SparseFactor changed = Solvers.ready(2);
        changed.setEntry(0, 0, 5);
        SparseFactor reordered = Solvers.ready(2);
        reordered.swap(0, 1);
        SparseFactor updated = Solvers.unit(2);
        updated.factor();
        updated.setWeight(0, 1);
        updated.update(65520);
        SparseFactor popped = Solvers.ready(2);
        popped.push();
        popped.factor();
        popped.pop();
        SparseFactor[] all = {new SparseFactor(), never, zeroPivot, changed, reordered, updated,
            popped};
        for (int k = 0; k < all.length; k++) {
            SparseFactor x = all[k];
            long before = x.digest();
            s.refused("without factors, case " + k, STATE, () -> call.with(x, 0));
            s.due("refused, digest, case " + k, x.digest(), before);
        }
        SparseFactor y = Solvers.ready(2);
        s.taken("with factors", () -> call.with(y, 0));
    }
}
