/** The three examples of the document's description. */
public final class ExamplesTest {
    private static final Checks checks = new Checks();

    public static void main(String[] args) {
        fillByElimination();
        factorsAndSystem();
        updateByWeights();
        checks.end();
    }

    private static void fillByElimination() {
        SparseFactor x = new SparseFactor();
        checks.due("setSize(3)", x.setSize(3), 3);
        checks.due("setEntry(0, 1, 1)", x.setEntry(0, 1, 1), 0);
        checks.due("setEntry(0, 2, 1)", x.setEntry(0, 2, 1), 0);
        checks.due("fillCount()", x.fillCount(), 1);
        checks.due("parent(1)", x.parent(1), 2);
        checks.due("minimumDegree()", x.minimumDegree(), 0);
        checks.due("fillCount()", x.fillCount(), 0);
        checks.due("rowAt(0)", x.rowAt(0), 1);
        checks.due("rowAt(2)", x.rowAt(2), 2);
    }

    private static void factorsAndSystem() {
        SparseFactor x = new SparseFactor();
        checks.due("setSize(2)", x.setSize(2), 2);
        checks.due("setEntry(0, 0, 2)", x.setEntry(0, 0, 2), 0);
        checks.due("setEntry(0, 1, 4)", x.setEntry(0, 1, 4), 0);
        checks.due("setEntry(1, 1, 9)", x.setEntry(1, 1, 9), 0);
        checks.due("factor()", x.factor(), 2);
        checks.due("pivot(1)", x.pivot(1), 1);
        checks.due("lower(1, 0)", x.lower(1, 0), 2);
        checks.due("setRight(0, 2)", x.setRight(0, 2), 0);
        checks.due("setRight(1, 5)", x.setRight(1, 5), 0);
        checks.due("solve()", x.solve(), 2);
        checks.due("component(1)", x.component(1), 1);
    }

    private static void updateByWeights() {
        SparseFactor x = new SparseFactor();
        checks.due("setSize(2)", x.setSize(2), 2);
        checks.due("setEntry(0, 0, 3)", x.setEntry(0, 0, 3), 0);
        checks.due("setEntry(1, 1, 5)", x.setEntry(1, 1, 5), 0);
        checks.due("factor()", x.factor(), 2);
        checks.due("setWeight(0, 1)", x.setWeight(0, 1), 0);
        checks.due("setWeight(1, 2)", x.setWeight(1, 2), 0);
        checks.due("update(1)", x.update(1), 2);
        checks.due("pivot(0)", x.pivot(0), 4);
        checks.due("entry(0, 1)", x.entry(0, 1), 2);
        checks.due("determinant()", x.determinant(), 32);
    }
}
