import java.util.Random;

/** Runs of 512 calls on OutputStore and on Model: every answer is the same. The seeds are fixed. */
public final class ModelTest {
    private static final int RUNS = 3000;
    private static final int CALLS = 512;

    private final Random random;
    private final OutputStore x = new OutputStore();
    private final Model y = new Model();
    private final int run;
    // How wide a run reaches: narrow ones meet often.
    private final int targets;
    private final int configurations;
    private final int contents;
    private final int firstPaths;
    private final int[] weights = new int[16];
    private int steps = 0;
    private int paths = 0;
    private int holds = 0;

    private ModelTest(int run) {
        this.run = run;
        random = new Random(run);
        int bound = run % 5;
        // Many reads find an OUTPUT only where there are few places for one.
        boolean few = bound == 1;
        targets = 1 + random.nextInt(few ? 2 : 12);
        configurations = 1 + random.nextInt(few ? 1 : 4);
        contents = random.nextBoolean() ? 4 : 90;
        firstPaths = random.nextInt(few ? 5 : 45);
        for (int i = 0; i < weights.length; i++) {
            weights[i] = 1 + random.nextInt(6);
        }
        weights[2] += random.nextInt(40);
        weights[5] += random.nextInt(20);
        weights[6] += random.nextInt(30);
        // Paths that fill up early are made at the start; clearing too often leaves nothing to see.
        weights[0] = 1;
        weights[13] = 1;
        leanTo(bound);
    }

    /** Luck alone doesn't come to the greatest numbers of the document: some runs lean to one of them. */
    private void leanTo(int bound) {
        if (bound == 1) {
            weights[6] += 150;
            weights[2] += 20;
            weights[3] += 10;
        } else if (bound == 2) {
            weights[1] += 80;
            weights[3] += 60;
            weights[4] += 10;
        } else if (bound == 3) {
            weights[5] += 150;
        } else if (bound == 4) {
            weights[2] += 250;
        }
    }

    public static void main(String[] args) {
        int fortyPaths = 0;
        int eightySteps = 0;
        int hundredHolds = 0;
        for (int run = 0; run < RUNS; run++) {
            ModelTest test = new ModelTest(run);
            test.go();
            fortyPaths += test.paths == 40 ? 1 : 0;
            eightySteps += test.steps == 80 ? 1 : 0;
            hundredHolds += test.holds == 100 ? 1 : 0;
        }
        Checks.due("runs came to 40 paths", fortyPaths > 20, true);
        Checks.due("runs came to 80 steps", eightySteps > 20, true);
        Checks.due("runs came to 100 holds", hundredHolds > 20, true);
        Checks.finish();
    }

    private void go() {
        int calls = 0;
        for (; calls < firstPaths; calls++) {
            call(0);
        }
        for (; calls < CALLS; calls++) {
            call(choose());
        }
    }

    private int choose() {
        int sum = 0;
        for (int weight : weights) {
            sum += weight;
        }
        int at = random.nextInt(sum);
        int kind = 0;
        while (at >= weights[kind]) {
            at -= weights[kind];
            kind++;
        }
        return kind;
    }

    /** A number below the count, or now and then one that is wrong. */
    private int some(int count) {
        int luck = random.nextInt(60);
        if (luck == 0) {
            return -1 - random.nextInt(3);
        }
        if (luck == 1) {
            return count + random.nextInt(3);
        }
        if (luck == 2) {
            int[] far = Scenes.outside(0, count - 1);
            return far[random.nextInt(far.length)];
        }
        return count == 0 ? 0 : random.nextInt(count);
    }

    private int target() {
        return random.nextInt(40) == 0 ? some(12) : some(targets) % 13;
    }

    private int configuration() {
        return random.nextInt(40) == 0 ? some(4) : some(configurations) % 5;
    }

    private int step() {
        return random.nextInt(4) == 0 ? some(steps) : Math.max(-1, steps - 1 - random.nextInt(6));
    }

    private long content() {
        long content = random.nextInt(contents + 1);
        int luck = random.nextInt(30);
        if (luck == 0) {
            return Scenes.CONTENTS[random.nextInt(Scenes.CONTENTS.length)];
        }
        return luck == 1 ? -content << 32 : content;
    }

    private void same(String call, long got, long want) {
        Checks.due("run " + run + ": " + call, got, want);
    }

    private void same(String call, boolean got, boolean want) {
        Checks.due("run " + run + ": " + call, got, want);
    }

    private void call(int kind) {
        int target = target();
        int configuration = configuration();
        int path = some(paths);
        int step = step();
        long content = content();
        boolean yes = random.nextInt(4) != 0;
        boolean lazy = random.nextInt(3) == 0;
        int small = some(8);
        switch (kind) {
            case 0 -> {
                int inside = random.nextInt(3) == 0 ? -1 : path;
                int made = y.path(inside);
                same("path(" + inside + ")", x.path(inside), made);
                paths = Math.max(paths, made + 1);
            }
            case 1 -> {
                int made = y.begin(target, configuration, small);
                same("begin", x.begin(target, configuration, small), made);
                steps = Math.max(steps, made + 1);
            }
            case 2 -> same("stage(" + step + ", " + path + ", " + content + ")",
                x.stage(step, path, content, yes, lazy), y.stage(step, path, content, yes, lazy));
            case 3 -> same("end(" + step + ", " + yes + ")", x.end(step, yes), y.end(step, yes));
            case 4 -> same("abandon(" + small + ")", x.abandon(small), y.abandon(small));
            case 5 -> same("cache(" + content + ", " + yes + ")", x.cache(content, yes), y.cache(content, yes));
            case 6 -> {
                int made = y.read(configuration, path);
                same("read(" + configuration + ", " + path + ")", x.read(configuration, path), made);
                holds = Math.max(holds, made + 1);
            }
            default -> ask(kind, target, configuration, path, content, small);
        }
    }

    private void ask(int kind, int target, int configuration, int path, long content, int small) {
        int hold = some(holds);
        switch (kind) {
            case 7 -> same("held(" + hold + ")", x.held(hold), y.held(hold));
            case 8 -> same("letGo(" + hold + ")", x.letGo(hold), y.letGo(hold));
            case 9 -> same("content(" + configuration + ", " + path + ")",
                x.content(configuration, path), y.content(configuration, path));
            case 10 -> same("about(" + configuration + ", " + path + ", " + small % 5 + ")",
                x.about(configuration, path, small % 5), y.about(configuration, path, small % 5));
            case 11 -> {
                int top = small < 4 ? -1 : path;
                int i = some(6);
                same("list(" + configuration + ", " + top + ", " + i + ")",
                    x.list(configuration, top, i), y.list(configuration, top, i));
            }
            case 12 -> same("dirty(" + target + ", " + configuration + ")",
                x.dirty(target, configuration), y.dirty(target, configuration));
            case 13 -> same("clear(" + configuration + ")", x.clear(configuration), y.clear(configuration));
            case 14 -> same("copies(" + content + ")", x.copies(content), y.copies(content));
            default -> same("stored()", x.stored(), y.stored());
        }
    }
}
