/** All that the face tells of an object, as one text, to compare two objects by. */
final class Look {
    private final StringBuilder text = new StringBuilder();
    private final SparseFactor x;
    private final int n;

    private Look(SparseFactor x) {
        this.x = x;
        this.n = x.size();
    }

    /** Leaves the object as it is. */
    static String at(SparseFactor x) {
        Look look = new Look(x);
        look.whole();
        for (int i = 0; i < look.n; i++) {
            look.row(i);
            for (int j = 0; j < look.n; j++) {
                look.pair(i, j);
            }
        }
        return look.text.toString();
    }

    /** Also tells the right sides, the weights and all levels, and uses the object up by that. */
    static String through(SparseFactor x) {
        StringBuilder all = new StringBuilder(at(x)).append(sidesAndWeights(x));
        String left = Checks.outcome(x::pop);
        for (int k = 0; k < 9 && !left.startsWith("throws."); k++) {
            all.append("\nlevels left ").append(left).append(": ").append(at(x))
                    .append(sidesAndWeights(x));
            left = Checks.outcome(x::pop);
        }
        return all.append("\nthen ").append(left).toString();
    }

    private static String sidesAndWeights(SparseFactor x) {
        StringBuilder told = new StringBuilder();
        for (int i = 0; i < x.size(); i++) {
            told.append(" right ").append(x.setRight(i, 0));
            told.append(" weight ").append(x.setWeight(i, 0));
        }
        return told.toString();
    }

    private void tell(String name, Checks.Call call) {
        text.append(' ').append(name).append(' ').append(Checks.outcome(call));
    }

    private void whole() {
        tell("size", x::size);
        tell("linkCount", x::linkCount);
        tell("determinant", x::determinant);
        tell("bandwidth", x::bandwidth);
        tell("profile", x::profile);
        tell("fillCount", x::fillCount);
        tell("work", x::work);
        tell("height", x::height);
        tell("hasFactors", () -> x.hasFactors() ? 1 : 0);
        tell("digest", x::digest);
    }

    private void row(int i) {
        tell("position", () -> x.position(i));
        tell("rowAt", () -> x.rowAt(i));
        tell("width", () -> x.width(i));
        tell("parent", () -> x.parent(i));
        tell("depth", () -> x.depth(i));
        tell("subtree", () -> x.subtree(i));
        tell("reached", () -> x.reached(1 << i));
        tell("pivot", () -> x.pivot(i));
        tell("component", () -> x.component(i));
    }

    private void pair(int i, int j) {
        tell("entry", () -> x.entry(i, j));
        tell("isJoined", () -> x.isJoined(i, j) ? 1 : 0);
        tell("meeting", () -> x.meeting(i, j));
        tell("lower", () -> x.lower(i, j));
        tell("inverse", () -> x.inverse(i, j));
    }
}
