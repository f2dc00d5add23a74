import java.util.ArrayList;
import java.util.List;

/** Stores that a test begins with, and numbers on either side of what is allowed. */
final class Scenes {
    static final int NONE = OutputStore.NONE;

    /** CONTENTS that a shorter number, or one half of a long, would take for one another or for 0. */
    static final long[] CONTENTS = {
        1, -1, Long.MIN_VALUE, Long.MAX_VALUE, Long.MIN_VALUE + 1, 1L << 32, -1L << 32, (1L << 32) + 1,
        0xFFFFFFFFL, Integer.MIN_VALUE, Integer.MAX_VALUE, 256,
    };

    // Among them those that come to 0 when they are multiplied by 4, 12 or 40 and wrap around.
    private static final int[] FAR = {
        Integer.MIN_VALUE, Integer.MIN_VALUE + 1, -(1 << 30), -(1 << 29), -1000, -160, -48, -40, -12,
        160, 256, 1000, 1 << 16, 1 << 29, 1 << 30, Integer.MAX_VALUE - 1, Integer.MAX_VALUE,
    };

    private Scenes() {
    }

    /** The first number below and the first above, the least and the greatest int, and some between. */
    static int[] outside(int least, int greatest) {
        List<Integer> numbers = new ArrayList<>(List.of(least - 1, greatest + 1));
        for (int far : FAR) {
            if (far < least || far > greatest) {
                numbers.add(far);
            }
        }
        return numbers.stream().mapToInt(Integer::intValue).toArray();
    }

    /** PATHS 0 .. count - 1, all at the top. */
    static OutputStore withPaths(int count) {
        OutputStore x = new OutputStore();
        for (int i = 0; i < count; i++) {
            Checks.due("path at the top", x.path(NONE), i);
        }
        return x;
    }

    /** 0, with 1 and 2 INSIDE it, 3 INSIDE 1; 4 at the top. */
    static OutputStore withTree() {
        OutputStore x = new OutputStore();
        x.path(NONE);
        x.path(0);
        x.path(0);
        x.path(1);
        x.path(NONE);
        return x;
    }

    /** 40 PATHS, each INSIDE the one before. */
    static OutputStore withChain() {
        OutputStore x = new OutputStore();
        for (int i = 0; i < 40; i++) {
            Checks.due("path of a chain", x.path(i - 1), i);
        }
        return x;
    }

    /** An OUTPUT by a STEP of its own; answers the STEP. */
    static int make(OutputStore x, int target, int configuration, int path, long content) {
        int step = x.begin(target, configuration, 0);
        Checks.due("make: stage", x.stage(step, path, content, false, false), 1);
        Checks.due("make: end", x.end(step, true) >= 0, true);
        return step;
    }

    /** A LAZY OUTPUT whose CONTENT the CACHE has; answers its STEP. */
    static int makeLazy(OutputStore x, int target, int configuration, int path, long content) {
        int step = x.begin(target, configuration, 0);
        Checks.due("makeLazy: cache", x.cache(content, true), true);
        Checks.due("makeLazy: stage", x.stage(step, path, content, false, true), 1);
        Checks.due("makeLazy: end", x.end(step, true) >= 0, true);
        return step;
    }

    /** A LAZY OUTPUT whose CONTENT the CACHE hasn't any more. */
    static int makeToLose(OutputStore x, int target, int configuration, int path, long content) {
        int step = makeLazy(x, target, configuration, path, content);
        Checks.due("makeToLose: cache", x.cache(content, false), true);
        return step;
    }

    /** A TARGET that is DIRTY, and has no OUTPUT, in a CONFIGURATION. */
    static void soil(OutputStore x, int target, int configuration, int path) {
        makeToLose(x, target, configuration, path, 999);
        Checks.due("soil: read", x.read(configuration, path), -3);
    }

    /** OUTPUTS at a TARGET's PATHS from .. from + count - 1, with CONTENTS from first on; answers the STEP. */
    static int makeMany(OutputStore x, int target, int configuration, int from, int count, long first) {
        int step = x.begin(target, configuration, 0);
        for (int k = 0; k < count; k++) {
            Checks.due("makeMany: stage", x.stage(step, from + k, first + k, false, false), 1);
        }
        Checks.due("makeMany: end", x.end(step, true) >= 0, true);
        return step;
    }

    /** Puts the CONTENTS from first on into the CACHE. */
    static void cacheMany(OutputStore x, long first, int count) {
        for (int k = 0; k < count; k++) {
            Checks.due("cacheMany", x.cache(first + k, true), true);
        }
    }

    /** A STORE with 100 HOLDS of 5, the OUTPUT of TARGET 0 at PATH 0 in CONFIGURATION 0. */
    static void holdAll(OutputStore x) {
        make(x, 0, 0, 0, 5);
        for (int i = 0; i < 100; i++) {
            Checks.due("holdAll", x.read(0, 0), i);
        }
    }
}
