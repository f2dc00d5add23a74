/**
 * Outputs of a build, by target, path and configuration, linked to contents.
 * The words PATH, STEP, STAGED, LAZY, LOST, DIRTY, HOLD and STORED are the document's.
 */
public final class OutputStore {
    public static final int NONE = -1;

    private static final int PATHS = 40;
    private static final int CONFIGURATIONS = 4;
    private static final int TARGETS = 12;
    private static final int RUNS = 8;
    private static final int STEPS = 80;
    private static final int STAGED_OF_A_STEP = 12;
    private static final int HOLDS = 100;
    private static final int CACHED = 60;

    /** One slot for each PATH in each CONFIGURATION. */
    private static final int SLOTS = CONFIGURATIONS * PATHS;
    /** Every place that may have a STORED content: OUTPUTS, then STAGED ones, then HOLDS. */
    private static final int PLACES = SLOTS + SLOTS + HOLDS;

    private static final long NO_CONTENT = 0L;

    private static final int DONE = 1;
    private static final int WRONG = -1;
    private static final int ALREADY_OPEN = -2;
    private static final int REFUSED = -2;
    private static final int NOT_CACHED = -3;
    private static final int NO_OUTPUT = -2;
    private static final int LOST = -3;

    private static final int ABOUT_TARGET = 0;
    private static final int ABOUT_EXECUTABLE = 1;
    private static final int ABOUT_THERE = 2;
    private static final int ABOUT_STEP = 3;

    private final PathTree paths;
    private final StepBook steps;
    private final LinkTable outputs;
    // One table is enough for all OPEN STEPS: STAGING refuses a PATH that
    // another OPEN STEP has STAGED in the same CONFIGURATION.
    private final LinkTable staged;
    private final CachedSet cached;
    private final HoldBook holds;
    private final DirtyMarks dirtyMarks;
    // Kept here so that counting the different contents makes no new row.
    private final long[] different;

    public OutputStore() {
        paths = new PathTree();
        steps = new StepBook();
        outputs = new LinkTable();
        staged = new LinkTable();
        cached = new CachedSet();
        holds = new HoldBook();
        dirtyMarks = new DirtyMarks();
        different = new long[PLACES];
    }

    public int path(int inside) {
        return paths.grow(inside);
    }

    public int begin(int target, int configuration, int run) {
        if (!isTarget(target) || !isConfiguration(configuration) || !isRun(run) || steps.isFull()) {
            return WRONG;
        }
        if (steps.hasOpenOne(target, configuration)) {
            return ALREADY_OPEN;
        }
        return steps.open(target, configuration, run);
    }

    public int stage(int step, int path, long content, boolean executable, boolean lazy) {
        if (!steps.isOpen(step) || !paths.has(path) || content == NO_CONTENT) {
            return WRONG;
        }
        int slot = slotOf(steps.configurationOf(step), path);
        if (!staged.isOfStep(slot, step) && countStaged(step) >= STAGED_OF_A_STEP) {
            return WRONG;
        }
        if (isRefused(step, path)) {
            return REFUSED;
        }
        if (lazy && !cached.has(content)) {
            return NOT_CACHED;
        }
        staged.put(slot, step, content, executable, lazy);
        return DONE;
    }

    public int end(int step, boolean well) {
        if (!steps.isOpen(step)) {
            return NONE;
        }
        int stale = well ? replaceOutputs(step) : 0;
        dropStaged(step);
        steps.close(step);
        return stale;
    }

    public int abandon(int run) {
        if (!isRun(run)) {
            return NONE;
        }
        int ended = 0;
        for (int step = 0; step < STEPS; step++) {
            if (steps.isOpen(step) && steps.runOf(step) == run) {
                dropStaged(step);
                steps.close(step);
                ended++;
            }
        }
        return ended;
    }

    public boolean cache(long content, boolean on) {
        if (content == NO_CONTENT) {
            return false;
        }
        if (on) {
            return cached.include(content);
        }
        cached.exclude(content);
        return true;
    }

    public int read(int configuration, int path) {
        int slot = slotOf(configuration, path);
        if (slot == NONE || holds.isFull()) {
            return WRONG;
        }
        if (!outputs.has(slot)) {
            return NO_OUTPUT;
        }
        long content = outputs.contentAt(slot);
        if (outputs.isLazy(slot) && !cached.has(content)) {
            dirtyMarks.set(targetAt(slot), configuration, true);
            outputs.drop(slot);
            return LOST;
        }
        outputs.makeThere(slot);
        return holds.take(content);
    }

    public long held(int hold) {
        return holds.contentOf(hold);
    }

    public boolean letGo(int hold) {
        return holds.release(hold);
    }

    public long content(int configuration, int path) {
        return outputs.contentAt(slotOf(configuration, path));
    }

    public int about(int configuration, int path, int what) {
        int slot = slotOf(configuration, path);
        if (!outputs.has(slot)) {
            return NONE;
        }
        switch (what) {
            case ABOUT_TARGET:
                return targetAt(slot);
            case ABOUT_EXECUTABLE:
                return outputs.isExecutable(slot) ? 1 : 0;
            case ABOUT_THERE:
                return outputs.isLazy(slot) ? 0 : 1;
            case ABOUT_STEP:
                return outputs.stepAt(slot);
            default:
                return NONE;
        }
    }

    public int list(int configuration, int path, int i) {
        if (!isConfiguration(configuration) || i < 0 || (path != NONE && !paths.has(path))) {
            return NONE;
        }
        int before = i;
        for (int at = 0; at < PATHS; at++) {
            if (outputs.has(slotOf(configuration, at)) && paths.isAtOrWithin(at, path)) {
                if (before == 0) {
                    return at;
                }
                before--;
            }
        }
        return NONE;
    }

    public boolean dirty(int target, int configuration) {
        return dirtyMarks.get(target, configuration);
    }

    public int clear(int configuration) {
        if (!isConfiguration(configuration) || steps.hasOpenOneIn(configuration)) {
            return NONE;
        }
        int gone = 0;
        for (int path = 0; path < PATHS; path++) {
            int slot = slotOf(configuration, path);
            if (outputs.has(slot)) {
                outputs.drop(slot);
                gone++;
            }
        }
        return gone;
    }

    public int copies(long content) {
        if (content == NO_CONTENT) {
            return 0;
        }
        int count = 0;
        for (int place = 0; place < PLACES; place++) {
            if (storedAt(place) == content) {
                count++;
            }
        }
        return count;
    }

    public int stored() {
        int count = 0;
        for (int place = 0; place < PLACES; place++) {
            long content = storedAt(place);
            if (content != NO_CONTENT && count < PLACES && find(different, count, content) == NONE) {
                different[count] = content;
                count++;
            }
        }
        return count;
    }

    /** The content that a place has STORED, or NO_CONTENT. */
    private long storedAt(int place) {
        if (place < SLOTS) {
            return outputs.storedIn(place);
        }
        if (place < SLOTS + SLOTS) {
            return staged.storedIn(place - SLOTS);
        }
        return holds.contentOf(place - SLOTS - SLOTS);
    }

    private boolean isRefused(int step, int path) {
        int configuration = steps.configurationOf(step);
        for (int other = 0; other < PATHS; other++) {
            int slot = slotOf(configuration, other);
            boolean taken = isOutputOfAnother(step, slot) || isStagedAgainst(step, slot, path == other);
            if (taken && paths.meet(path, other)) {
                return true;
            }
        }
        return false;
    }

    private boolean isOutputOfAnother(int step, int slot) {
        return outputs.has(slot) && targetAt(slot) != steps.targetOf(step);
    }

    private boolean isStagedAgainst(int step, int slot, boolean samePath) {
        return staged.has(slot) && !(samePath && staged.isOfStep(slot, step));
    }

    private int countStaged(int step) {
        int configuration = steps.configurationOf(step);
        int count = 0;
        for (int path = 0; path < PATHS; path++) {
            if (staged.isOfStep(slotOf(configuration, path), step)) {
                count++;
            }
        }
        return count;
    }

    /** Puts what a STEP has STAGED in the place of its TARGET's OUTPUTS; answers how many were STALE. */
    private int replaceOutputs(int step) {
        int configuration = steps.configurationOf(step);
        int target = steps.targetOf(step);
        int stale = 0;
        for (int path = 0; path < PATHS; path++) {
            int slot = slotOf(configuration, path);
            if (staged.isOfStep(slot, step)) {
                outputs.put(slot, step, staged.contentAt(slot), staged.isExecutable(slot), staged.isLazy(slot));
            } else if (outputs.has(slot) && targetAt(slot) == target) {
                outputs.drop(slot);
                stale++;
            }
        }
        dirtyMarks.set(target, configuration, false);
        return stale;
    }

    private void dropStaged(int step) {
        int configuration = steps.configurationOf(step);
        for (int path = 0; path < PATHS; path++) {
            int slot = slotOf(configuration, path);
            if (staged.isOfStep(slot, step)) {
                staged.drop(slot);
            }
        }
    }

    private int targetAt(int slot) {
        return steps.targetOf(outputs.stepAt(slot));
    }

    /** NONE if there is no such CONFIGURATION or no such PATH. */
    private int slotOf(int configuration, int path) {
        if (!isConfiguration(configuration) || !paths.has(path)) {
            return NONE;
        }
        return configuration * PATHS + path;
    }

    private static boolean isTarget(int target) {
        return target >= 0 && target < TARGETS;
    }

    private static boolean isConfiguration(int configuration) {
        return configuration >= 0 && configuration < CONFIGURATIONS;
    }

    private static boolean isRun(int run) {
        return run >= 0 && run < RUNS;
    }

    /** Where a content stands among the first ones of a row, or NONE. */
    private static int find(long[] row, int count, long content) {
        for (int at = 0; at < count && at < row.length; at++) {
            if (row[at] == content) {
                return at;
            }
        }
        return NONE;
    }

    /** The PATHS and what they lie INSIDE. */
    private static final class PathTree {
        private final int[] outer = new int[PATHS];
        private int count = 0;

        boolean has(int path) {
            return path >= 0 && path < count;
        }

        int grow(int inside) {
            if (count >= PATHS || (inside != NONE && !has(inside))) {
                return NONE;
            }
            outer[count] = inside;
            count++;
            return count - 1;
        }

        boolean meet(int one, int other) {
            return has(one) && has(other) && (isAtOrWithin(one, other) || isAtOrWithin(other, one));
        }

        /** Every PATH is within NONE, the top. */
        boolean isAtOrWithin(int path, int top) {
            int at = path;
            // A PATH lies INSIDE one with a lesser number, so going out can't pass the top unseen.
            for (int level = 0; level < PATHS && at > top && has(at); level++) {
                at = outer[at];
            }
            return at == top;
        }
    }

    /** All STEPS, OPEN and ended. */
    private static final class StepBook {
        private final int[] targets = new int[STEPS];
        private final int[] configurations = new int[STEPS];
        private final int[] runs = new int[STEPS];
        private final boolean[] opened = new boolean[STEPS];
        private int count = 0;

        boolean isFull() {
            return count >= STEPS;
        }

        boolean has(int step) {
            return step >= 0 && step < count;
        }

        boolean isOpen(int step) {
            return has(step) && opened[step];
        }

        int open(int target, int configuration, int run) {
            if (isFull()) {
                return NONE;
            }
            targets[count] = target;
            configurations[count] = configuration;
            runs[count] = run;
            opened[count] = true;
            count++;
            return count - 1;
        }

        void close(int step) {
            if (has(step)) {
                opened[step] = false;
            }
        }

        int targetOf(int step) {
            return has(step) ? targets[step] : NONE;
        }

        int configurationOf(int step) {
            return has(step) ? configurations[step] : NONE;
        }

        int runOf(int step) {
            return has(step) ? runs[step] : NONE;
        }

        boolean hasOpenOne(int target, int configuration) {
            for (int step = 0; step < STEPS; step++) {
                if (isOpen(step) && targets[step] == target && configurations[step] == configuration) {
                    return true;
                }
            }
            return false;
        }

        boolean hasOpenOneIn(int configuration) {
            for (int step = 0; step < STEPS; step++) {
                if (isOpen(step) && configurations[step] == configuration) {
                    return true;
                }
            }
            return false;
        }
    }

    /** What is linked to a content, by slot: the OUTPUTS, or what is STAGED. */
    private static final class LinkTable {
        private final long[] contents = new long[SLOTS];
        private final int[] makers = new int[SLOTS];
        private final boolean[] executables = new boolean[SLOTS];
        private final boolean[] lazies = new boolean[SLOTS];

        boolean has(int slot) {
            return slot >= 0 && slot < SLOTS && contents[slot] != NO_CONTENT;
        }

        void put(int slot, int step, long content, boolean executable, boolean lazy) {
            if (slot >= 0 && slot < SLOTS) {
                contents[slot] = content;
                makers[slot] = step;
                executables[slot] = executable;
                lazies[slot] = lazy;
            }
        }

        void drop(int slot) {
            if (has(slot)) {
                contents[slot] = NO_CONTENT;
            }
        }

        void makeThere(int slot) {
            if (has(slot)) {
                lazies[slot] = false;
            }
        }

        long contentAt(int slot) {
            return has(slot) ? contents[slot] : NO_CONTENT;
        }

        /** A LAZY one's content isn't stored. */
        long storedIn(int slot) {
            return isLazy(slot) ? NO_CONTENT : contentAt(slot);
        }

        int stepAt(int slot) {
            return has(slot) ? makers[slot] : NONE;
        }

        boolean isOfStep(int slot, int step) {
            return has(slot) && makers[slot] == step;
        }

        boolean isExecutable(int slot) {
            return has(slot) && executables[slot];
        }

        boolean isLazy(int slot) {
            return has(slot) && lazies[slot];
        }
    }

    /** The CACHE. */
    private static final class CachedSet {
        private final long[] contents = new long[CACHED];
        private int count = 0;

        boolean has(long content) {
            return find(contents, count, content) != NONE;
        }

        boolean include(long content) {
            if (has(content)) {
                return true;
            }
            if (count >= CACHED) {
                return false;
            }
            contents[count] = content;
            count++;
            return true;
        }

        void exclude(long content) {
            int at = find(contents, count, content);
            if (at >= 0 && at < count) {
                count--;
                // The order of the CACHE is nobody's concern, so the last one fills the gap.
                contents[at] = contents[count];
            }
        }
    }

    /** All HOLDS; one that was let go keeps its number and has no content. */
    private static final class HoldBook {
        private final long[] contents = new long[HOLDS];
        private int count = 0;

        boolean isFull() {
            return count >= HOLDS;
        }

        int take(long content) {
            if (isFull()) {
                return NONE;
            }
            contents[count] = content;
            count++;
            return count - 1;
        }

        boolean has(int hold) {
            return hold >= 0 && hold < count && contents[hold] != NO_CONTENT;
        }

        long contentOf(int hold) {
            return has(hold) ? contents[hold] : NO_CONTENT;
        }

        boolean release(int hold) {
            if (!has(hold)) {
                return false;
            }
            contents[hold] = NO_CONTENT;
            return true;
        }
    }

    /** Which TARGETS are DIRTY, by CONFIGURATION. */
    private static final class DirtyMarks {
        private final boolean[] marks = new boolean[TARGETS * CONFIGURATIONS];

        boolean get(int target, int configuration) {
            return isTarget(target) && isConfiguration(configuration) && marks[configuration * TARGETS + target];
        }

        void set(int target, int configuration, boolean mark) {
            if (isTarget(target) && isConfiguration(configuration)) {
                marks[configuration * TARGETS + target] = mark;
            }
        }
    }
}
