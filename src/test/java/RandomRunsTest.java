import java.util.Random;

/** Long runs of drawn calls, right and wrong ones, each answered by the program and the model. */
public final class RandomRunsTest {
    private static final int RUNS = 400;
    /** With those that prepare a run, 512 calls are not passed. */
    private static final int CALLS = 490;
    private static final int[] EDGE_VALUES = {0, 1, 2, 65519, 65520, 65521, -1,
        Integer.MIN_VALUE, Integer.MAX_VALUE};

    private final Checks checks;
    private final Random random;
    private final boolean dense;
    private final int greatestSize;
    private final SparseFactor x = new SparseFactor();
    private final PlainModel model = new PlainModel();
    private String text;
    private Checks.Call mine;
    private Checks.Call due;

    private RandomRunsTest(Checks checks, int seed) {
        this.checks = checks;
        this.random = new Random(seed);
        this.dense = seed % 3 == 0;
        this.greatestSize = seed % 4 == 0 ? 16 : seed % 4 == 1 ? 3 : 8;
    }

    public static void main(String[] args) {
        Checks checks = new Checks();
        for (int seed = 0; seed < RUNS && checks.wrongSoFar() == 0; seed++) {
            new RandomRunsTest(checks, seed).run(seed);
        }
        checks.end();
    }

    /** A full diagonal makes it likely that factors exist, in the runs with many rows too. */
    private void prepare() {
        ask("setSize", () -> x.setSize(greatestSize), () -> model.setSize(greatestSize));
        for (int k = 0; k < greatestSize; k++) {
            int i = k;
            int value = 1 + random.nextInt(65520);
            ask("setEntry", () -> x.setEntry(i, i, value), () -> model.setEntry(i, i, value));
        }
    }

    private void ask(String name, Checks.Call program, Checks.Call plain) {
        checks.due(name, Checks.outcome(program), Checks.outcome(plain));
    }

    private void run(int seed) {
        if (seed % 5 != 0) {
            prepare();
        }
        for (int k = 0; k < CALLS && checks.wrongSoFar() == 0; k++) {
            draw();
            ask("run " + seed + ", call " + k + ": " + text, mine, due);
        }
        checks.due("run " + seed + ": digest()", x.digest(), model.digest());
    }

    private void call(String name, Checks.Call program, Checks.Call plain) {
        text = name;
        mine = program;
        due = plain;
    }

    private void draw() {
        int kind = random.nextInt(100);
        if (random.nextInt(300) == 0) {
            int n = random.nextInt(10) == 0 ? value() : 1 + random.nextInt(greatestSize);
            call("setSize " + n, () -> x.setSize(n), () -> model.setSize(n));
        } else if (kind < 22) {
            drawChange();
        } else if (kind < 38) {
            drawFactors();
        } else if (kind < 50) {
            drawSystem();
        } else if (kind < 60) {
            drawOrder();
        } else if (kind < 80) {
            drawTree();
        } else {
            drawQuestion();
        }
    }

    private void drawChange() {
        int i = row();
        int j = random.nextInt(4) == 0 ? i : row();
        int value = !dense && random.nextInt(3) == 0 ? 0 : value();
        call("setEntry " + i + " " + j + " " + value,
                () -> x.setEntry(i, j, value), () -> model.setEntry(i, j, value));
    }

    private void drawFactors() {
        int p = row();
        int q = row();
        int value = value();
        switch (random.nextInt(7)) {
            case 0, 1 -> call("factor", x::factor, model::factor);
            case 2 -> call("hasFactors", () -> x.hasFactors() ? 1 : 0, model::hasFactors);
            case 3 -> call("pivot " + p, () -> x.pivot(p), () -> model.pivot(p));
            case 4 -> call("lower " + p + " " + q, () -> x.lower(p, q), () -> model.lower(p, q));
            case 5 -> call("setWeight " + p + " " + value,
                    () -> x.setWeight(p, value), () -> model.setWeight(p, value));
            default -> call("update " + value, () -> x.update(value), () -> model.update(value));
        }
    }

    private void drawSystem() {
        int i = row();
        int j = row();
        int value = value();
        switch (random.nextInt(4)) {
            case 0 -> call("setRight " + i + " " + value,
                    () -> x.setRight(i, value), () -> model.setRight(i, value));
            case 1 -> call("solve", x::solve, model::solve);
            case 2 -> call("component " + i, () -> x.component(i), () -> model.component(i));
            default -> call("inverse " + i + " " + j,
                    () -> x.inverse(i, j), () -> model.inverse(i, j));
        }
    }

    private void drawOrder() {
        int p = row();
        int q = row();
        switch (random.nextInt(6)) {
            case 0 -> call("swap " + p + " " + q,
                    () -> x.swap(p, q) ? 1 : 0, () -> model.swap(p, q));
            case 1 -> call("minimumDegree", x::minimumDegree, model::minimumDegree);
            case 2 -> call("reverse", x::reverse, model::reverse);
            case 3 -> call("position " + p, () -> x.position(p), () -> model.position(p));
            case 4 -> call("rowAt " + p, () -> x.rowAt(p), () -> model.rowAt(p));
            default -> call("bandwidth", x::bandwidth, model::bandwidth);
        }
    }

    private void drawTree() {
        int i = row();
        int j = row();
        switch (random.nextInt(10)) {
            case 0 -> call("isJoined " + i + " " + j,
                    () -> x.isJoined(i, j) ? 1 : 0, () -> model.isJoined(i, j));
            case 1 -> call("fillCount", x::fillCount, model::fillCount);
            case 2 -> call("width " + i, () -> x.width(i), () -> model.width(i));
            case 3 -> call("work", x::work, model::work);
            case 4 -> call("parent " + i, () -> x.parent(i), () -> model.parent(i));
            case 5 -> call("depth " + i, () -> x.depth(i), () -> model.depth(i));
            case 6 -> call("subtree " + i, () -> x.subtree(i), () -> model.subtree(i));
            case 7 -> call("height", x::height, model::height);
            case 8 -> call("meeting " + i + " " + j,
                    () -> x.meeting(i, j), () -> model.meeting(i, j));
            default -> drawReached();
        }
    }

    private void drawReached() {
        int mask = random.nextInt(5) == 0 ? random.nextInt() >> random.nextInt(31)
                : random.nextInt(1 << (int) model.size());
        call("reached " + mask, () -> x.reached(mask), () -> model.reached(mask));
    }

    private void drawQuestion() {
        int i = row();
        int j = row();
        switch (random.nextInt(model.size() > 8 ? 7 : 8)) {
            case 0 -> call("size", x::size, model::size);
            case 1 -> call("entry " + i + " " + j, () -> x.entry(i, j), () -> model.entry(i, j));
            case 2 -> call("linkCount", x::linkCount, model::linkCount);
            case 3 -> call("profile", x::profile, model::profile);
            case 4 -> call("push", x::push, model::push);
            case 5 -> call("pop", x::pop, model::pop);
            case 6 -> call("digest", x::digest, model::digest);
            default -> call("determinant", x::determinant, model::determinant);
        }
    }

    /** Mostly a row that exists, at times the first beyond, or one far away. */
    private int row() {
        int n = (int) model.size();
        return switch (random.nextInt(40)) {
            case 0 -> n;
            case 1 -> -1;
            case 2 -> value();
            default -> random.nextInt(n);
        };
    }

    private int value() {
        return switch (random.nextInt(30)) {
            case 0 -> EDGE_VALUES[random.nextInt(EDGE_VALUES.length)];
            case 1, 2, 3, 4, 5 -> EDGE_VALUES[random.nextInt(5)];
            case 6, 7, 8, 9, 10, 11, 12, 13 -> random.nextInt(6);
            default -> random.nextInt(65521);
        };
    }
}
