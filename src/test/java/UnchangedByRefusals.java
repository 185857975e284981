import java.util.ArrayList;
import java.util.List;

/**
 * Makes every call that can be refused, in each of some states, and compares the object after it
 * with another of the same history that had no such call.
 */
final class UnchangedByRefusals {
    private static final int STATES = 7;

    private interface Refused {
        long on(SparseFactor x);
    }

    private final Sentences s;
    private final List<String> names = new ArrayList<>();
    private final List<Class<? extends RuntimeException>> due = new ArrayList<>();
    private final List<Refused> calls = new ArrayList<>();

    UnchangedByRefusals(Sentences s) {
        this.s = s;
    }

    void all() {
        for (int state = 0; state < STATES; state++) {
            names.clear();
            due.clear();
            calls.clear();
            gather(state);
            String untouched = Look.through(make(state));
            for (int k = 0; k < calls.size(); k++) {
                SparseFactor x = make(state);
                Refused call = calls.get(k);
                String label = "state " + state + ", " + names.get(k);
                s.refused(label, due.get(k), () -> call.on(x));
                s.due(label + " changes nothing", Look.through(x), untouched);
            }
        }
    }

    private static SparseFactor make(int state) {
        switch (state) {
            case 0:
                return new SparseFactor();
            case 1:
                return withLevels(Solvers.ready(3), 2);
            case 2:
                return withLevels(Solvers.unfactored(3), 1);
            case 3:
                return factorsAlone();
            case 4:
                return withLevels(Solvers.ready(2), 6);
            case 5:
                return Solvers.ready(3);
            default:
                return Solvers.sized(3);
        }
    }

    /** What stands on a level differs from what stands on the others and in the object. */
    private static SparseFactor withLevels(SparseFactor x, int count) {
        for (int k = 1; k <= count; k++) {
            x.setRight(0, 100 + k);
            x.push();
        }
        x.setRight(0, 99);
        return x;
    }

    private static SparseFactor factorsAlone() {
        SparseFactor x = Solvers.two(2, 4, 9);
        x.setWeight(0, 3);
        x.reverse();
        x.factor();
        return x;
    }

    private void add(String name, Class<? extends RuntimeException> want, Refused call) {
        names.add(name);
        due.add(want);
        calls.add(call);
    }

    private void gather(int state) {
        int n = make(state).size();
        add("setSize(0)", Refusals.ARGUMENT, x -> x.setSize(0));
        add("setSize(17)", Refusals.ARGUMENT, x -> x.setSize(17));
        add("reached(-1)", Refusals.ARGUMENT, x -> x.reached(-1));
        add("reached(2^n)", Refusals.ARGUMENT, x -> x.reached(1 << n));
        for (int bad : new int[] {-1, n}) {
            gatherRows(bad);
            gatherPairs(bad);
        }
        for (int bad : new int[] {-1, 65521}) {
            add("setEntry value", Refusals.ARGUMENT, x -> x.setEntry(0, 0, bad));
            add("setEntry value", Refusals.ARGUMENT, x -> x.setEntry(n - 1, 0, bad));
            add("setWeight value", Refusals.ARGUMENT, x -> x.setWeight(0, bad));
            add("setRight value", Refusals.ARGUMENT, x -> x.setRight(0, bad));
            add("update factor", Refusals.ARGUMENT, x -> x.update(bad));
        }
        gatherStates(state);
    }

    private void gatherRows(int bad) {
        add("position", Refusals.INDEX, x -> x.position(bad));
        add("rowAt", Refusals.INDEX, x -> x.rowAt(bad));
        add("width", Refusals.INDEX, x -> x.width(bad));
        add("parent", Refusals.INDEX, x -> x.parent(bad));
        add("depth", Refusals.INDEX, x -> x.depth(bad));
        add("subtree", Refusals.INDEX, x -> x.subtree(bad));
        add("pivot", Refusals.INDEX, x -> x.pivot(bad));
        add("setWeight row", Refusals.INDEX, x -> x.setWeight(bad, 7));
        add("setRight row", Refusals.INDEX, x -> x.setRight(bad, 7));
        add("component", Refusals.INDEX, x -> x.component(bad));
    }

    private void gatherPairs(int bad) {
        add("setEntry row", Refusals.INDEX, x -> x.setEntry(bad, 0, 7));
        add("setEntry column", Refusals.INDEX, x -> x.setEntry(0, bad, 7));
        add("entry row", Refusals.INDEX, x -> x.entry(bad, 0));
        add("entry column", Refusals.INDEX, x -> x.entry(0, bad));
        add("swap p", Refusals.INDEX, x -> x.swap(bad, 0) ? 1 : 0);
        add("swap q", Refusals.INDEX, x -> x.swap(0, bad) ? 1 : 0);
        add("swap both", Refusals.INDEX, x -> x.swap(bad, bad) ? 1 : 0);
        add("isJoined i", Refusals.INDEX, x -> x.isJoined(bad, 0) ? 1 : 0);
        add("isJoined j", Refusals.INDEX, x -> x.isJoined(0, bad) ? 1 : 0);
        add("meeting i", Refusals.INDEX, x -> x.meeting(bad, 0));
        add("meeting j", Refusals.INDEX, x -> x.meeting(0, bad));
        add("lower p", Refusals.INDEX, x -> x.lower(bad, 0));
        add("lower q", Refusals.INDEX, x -> x.lower(0, bad));
        add("inverse row", Refusals.INDEX, x -> x.inverse(bad, 0));
        add("inverse column", Refusals.INDEX, x -> x.inverse(0, bad));
    }

    /** The calls that are refused for what the object has not, or has too much of. */
    private void gatherStates(int state) {
        boolean factors = state == 1 || state == 3 || state == 4 || state == 5;
        boolean solution = state == 1 || state == 2 || state == 4 || state == 5;
        boolean levels = state == 1 || state == 2 || state == 4;
        if (!factors) {
            add("pivot(0)", Refusals.STATE, x -> x.pivot(0));
            add("lower(0, 0)", Refusals.STATE, x -> x.lower(0, 0));
            add("update(0)", Refusals.STATE, x -> x.update(0));
            add("update(1)", Refusals.STATE, x -> x.update(1));
            add("solve()", Refusals.STATE, SparseFactor::solve);
            add("inverse(0, 0)", Refusals.STATE, x -> x.inverse(0, 0));
        }
        if (!solution) {
            add("component(0)", Refusals.NO_ELEMENT, x -> x.component(0));
        }
        if (!levels) {
            add("pop()", Refusals.STATE, SparseFactor::pop);
        }
        if (state == 4) {
            add("push()", Refusals.STATE, SparseFactor::push);
        }
    }
}
