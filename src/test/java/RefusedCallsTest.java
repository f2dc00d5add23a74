import java.util.function.Consumer;
import java.util.function.Function;
import java.util.function.ToLongFunction;

/**
 * A refused call, or one that only asks, changes nothing that later calls show: of two stores made by the
 * same calls one is given that call, and then both must answer every later call alike.
 */
public final class RefusedCallsTest {
    private static final int NONE = OutputStore.NONE;
    private static final long[] USED = {0, 5, 6, 7, 8, 9, 61, 77, 999, Long.MIN_VALUE, Long.MAX_VALUE};

    public static void main(String[] args) throws ReflectiveOperationException {
        Checks.runAll(RefusedCallsTest.class, 2, 17);
        Checks.finish();
    }

    // What later calls show. Each of them fits into the 512 calls with each of the scenes.

    private static String looks(OutputStore x) {
        StringBuilder seen = new StringBuilder();
        for (int c = 0; c < 4; c++) {
            for (int path = 0; path < 6; path++) {
                seen.append(x.content(c, path)).append(' ');
                for (int what = 0; what < 4; what++) {
                    seen.append(x.about(c, path, what)).append(' ');
                }
                seen.append(x.list(c, NONE, path)).append(' ');
            }
        }
        return seen.append(dirtyOnes(x)).append(contents(x)).toString();
    }

    private static String dirtyOnes(OutputStore x) {
        StringBuilder seen = new StringBuilder("dirty ");
        for (int target = 0; target < 12; target++) {
            for (int c = 0; c < 4; c++) {
                seen.append(x.dirty(target, c) ? 1 : 0);
            }
        }
        return seen.append(' ').toString();
    }

    private static String contents(OutputStore x) {
        StringBuilder seen = new StringBuilder("stored ").append(x.stored()).append(' ');
        for (long content : USED) {
            seen.append(x.copies(content)).append(' ');
        }
        return seen.toString();
    }

    private static String holds(OutputStore x) {
        StringBuilder seen = new StringBuilder("held ");
        for (int hold = -1; hold <= 100; hold++) {
            seen.append(x.held(hold)).append(' ');
        }
        for (int hold = -1; hold <= 100; hold++) {
            seen.append(x.letGo(hold) ? 1 : 0);
        }
        return seen.append(contents(x)).toString();
    }

    private static String newPaths(OutputStore x) {
        StringBuilder seen = new StringBuilder("paths ");
        for (int i = 0; i < 41; i++) {
            seen.append(x.path(i % 3 - 1)).append(' ');
        }
        return seen.toString();
    }

    private static String newSteps(OutputStore x) {
        StringBuilder seen = new StringBuilder("steps ");
        for (int i = 0; i < 48; i++) {
            seen.append(x.begin(i % 12, i / 12, 7)).append(' ');
        }
        for (int run = 0; run < 8; run++) {
            seen.append(x.abandon(run)).append(' ');
        }
        for (int c = 0; c < 4; c++) {
            seen.append(x.clear(c)).append(' ');
        }
        return seen.append(contents(x)).toString();
    }

    private static String reads(OutputStore x) {
        StringBuilder seen = new StringBuilder("reads ");
        for (int i = 0; i < 48; i++) {
            seen.append(x.read(i % 4, i / 4 % 6)).append(' ');
        }
        for (int hold = 0; hold < 50; hold++) {
            seen.append(x.held(hold)).append(' ');
        }
        return seen.append(dirtyOnes(x)).append(contents(x)).toString();
    }

    private static String wellEnds(OutputStore x) {
        StringBuilder seen = new StringBuilder("ends ");
        for (int step = 0; step < 81; step++) {
            seen.append(x.end(step, true)).append(' ');
        }
        return seen.append(looks(x)).toString();
    }

    private static String stagings(OutputStore x) {
        StringBuilder seen = new StringBuilder("stagings ");
        for (int step : new int[] {0, 5, 6, 7, 79}) {
            for (int path = 0; path < 20; path++) {
                seen.append(x.stage(step, path, 55, false, true)).append(' ');
            }
            for (int path = 0; path < 20; path++) {
                seen.append(x.stage(step, path, 55, false, false)).append(' ');
            }
        }
        return seen.append(contents(x)).toString();
    }

    private static String caching(OutputStore x) {
        StringBuilder seen = new StringBuilder("cached ");
        for (int target = 0; target < 2; target++) {
            int step = x.begin(11 - target, 3, 0);
            for (long content : USED) {
                seen.append(x.stage(step, target, content, false, true)).append(' ');
            }
        }
        for (int i = 0; i < 61; i++) {
            seen.append(x.cache(1000 + i, true) ? 1 : 0);
        }
        return seen.toString();
    }

    private static void changesNothing(String call, Consumer<OutputStore> scene, ToLongFunction<OutputStore> made,
            long answer) {
        showsAlike(call + ", looks", scene, made, answer, RefusedCallsTest::looks);
        showsAlike(call + ", holds", scene, made, answer, RefusedCallsTest::holds);
        showsAlike(call + ", newPaths", scene, made, answer, RefusedCallsTest::newPaths);
        showsAlike(call + ", newSteps", scene, made, answer, RefusedCallsTest::newSteps);
        showsAlike(call + ", reads", scene, made, answer, RefusedCallsTest::reads);
        showsAlike(call + ", wellEnds", scene, made, answer, RefusedCallsTest::wellEnds);
        showsAlike(call + ", stagings", scene, made, answer, RefusedCallsTest::stagings);
        showsAlike(call + ", caching", scene, made, answer, RefusedCallsTest::caching);
    }

    private static void showsAlike(String call, Consumer<OutputStore> scene, ToLongFunction<OutputStore> made,
            long answer, Function<OutputStore, String> shown) {
        OutputStore x = new OutputStore();
        OutputStore y = new OutputStore();
        scene.accept(x);
        scene.accept(y);
        Checks.due(call, made.applyAsLong(x), answer);
        Checks.due(call + " and after it", shown.apply(x), shown.apply(y));
    }

    private static void refused(String call, Consumer<OutputStore> scene, ToLongFunction<OutputStore> made) {
        changesNothing(call, scene, made, -1);
    }

    private static long number(boolean answer) {
        return answer ? 1 : 0;
    }

    // The scenes.

    /**
     * The tree of Scenes; OUTPUTS of TARGET 1 at 1 (7), of 2 at 4 (8, LAZY, cached), of 3 in CONFIGURATION 1
     * at 0 (6, LAZY, to be lost); 4 DIRTY in 2 and 1; STEPS 5 (of 0 in 0, RUN 3; 5 STAGED at 2) and 6 (of 5
     * in 1, RUN 4; 9 STAGED as LAZY at 4) OPEN; HOLDS 0 (of 7) and 1 (let go).
     */
    private static void some(OutputStore x) {
        x.path(NONE);
        x.path(0);
        x.path(0);
        x.path(1);
        x.path(NONE);
        Scenes.make(x, 1, 0, 1, 7);
        Scenes.makeLazy(x, 2, 0, 4, 8);
        Scenes.makeToLose(x, 3, 1, 0, 6);
        Scenes.soil(x, 4, 2, 0);
        Scenes.soil(x, 4, 1, 4);
        x.begin(0, 0, 3);
        x.stage(5, 2, 5, true, false);
        x.begin(5, 1, 4);
        x.cache(9, true);
        x.stage(6, 4, 9, false, true);
        x.read(0, 1);
        x.read(0, 1);
        x.letGo(1);
    }

    private static void fullPaths(OutputStore x) {
        some(x);
        for (int path = 5; path < 40; path++) {
            x.path(path % 2 == 0 ? NONE : 4);
        }
    }

    private static void fullSteps(OutputStore x) {
        some(x);
        for (int step = 7; step < 80; step++) {
            x.begin(6, 3, 0);
            if (step < 79) {
                x.end(step, true);
            }
        }
    }

    private static void fullStep(OutputStore x) {
        some(x);
        for (int path = 5; path < 18; path++) {
            x.path(NONE);
        }
        x.path(5);
        for (int path = 5; path < 16; path++) {
            Checks.due("fullStep", x.stage(5, path, 50 + path, false, false), 1);
        }
    }

    private static void fullCache(OutputStore x) {
        some(x);
        Scenes.cacheMany(x, 101, 58);
    }

    private static void fullHolds(OutputStore x) {
        some(x);
        for (int hold = 2; hold < 100; hold++) {
            Checks.due("fullHolds", x.read(0, 1), hold);
        }
    }

    // One test for each way of being refused.

    private static void promise02NoSuchPath() {
        refused("path(5)", RefusedCallsTest::some, x -> x.path(5));
        refused("path(-2)", RefusedCallsTest::some, x -> x.path(-2));
        refused("path(the least)", RefusedCallsTest::some, x -> x.path(Integer.MIN_VALUE));
        refused("path(the greatest)", RefusedCallsTest::some, x -> x.path(Integer.MAX_VALUE));
    }

    private static void promise02Forty() {
        refused("path(NONE)", RefusedCallsTest::fullPaths, x -> x.path(NONE));
        refused("path(39)", RefusedCallsTest::fullPaths, x -> x.path(39));
    }

    private static void promise03NotAsTold() {
        for (int wrong : new int[] {Integer.MIN_VALUE, -1, 12, Integer.MAX_VALUE}) {
            refused("a target " + wrong, RefusedCallsTest::some, x -> x.begin(wrong, 0, 0));
            refused("a configuration " + wrong, RefusedCallsTest::some, x -> x.begin(6, wrong, 0));
            refused("a run " + wrong, RefusedCallsTest::some, x -> x.begin(6, 0, wrong));
        }
        refused("configuration 4", RefusedCallsTest::some, x -> x.begin(6, 4, 0));
        refused("run 8", RefusedCallsTest::some, x -> x.begin(6, 0, 8));
    }

    private static void promise03Eighty() {
        refused("an 81st", RefusedCallsTest::fullSteps, x -> x.begin(7, 3, 0));
        refused("an 81st of an open one", RefusedCallsTest::fullSteps, x -> x.begin(6, 3, 0));
    }

    private static void promise03OneIsOpen() {
        changesNothing("the same run", RefusedCallsTest::some, x -> x.begin(0, 0, 3), -2);
        changesNothing("another run", RefusedCallsTest::some, x -> x.begin(5, 1, 0), -2);
    }

    private static void promise04NoSuchOpenStep() {
        for (int step : new int[] {Integer.MIN_VALUE, -1, 0, 4, 7, 80, Integer.MAX_VALUE}) {
            refused("step " + step, RefusedCallsTest::some, x -> x.stage(step, 2, 77, false, false));
        }
    }

    private static void promise04NoSuchPath() {
        for (int path : new int[] {Integer.MIN_VALUE, -1, 5, 40, Integer.MAX_VALUE}) {
            refused("path " + path, RefusedCallsTest::some, x -> x.stage(5, path, 77, false, false));
        }
    }

    private static void promise04ContentZero() {
        refused("where one is staged", RefusedCallsTest::some, x -> x.stage(5, 2, 0, false, false));
        refused("where none is staged", RefusedCallsTest::some, x -> x.stage(6, 2, 0, false, true));
    }

    private static void promise04Twelve() {
        refused("a 13th", RefusedCallsTest::fullStep, x -> x.stage(5, 16, 77, false, false));
        refused("a 13th, lazily", RefusedCallsTest::fullStep, x -> x.stage(5, 17, 8, false, true));
        refused("a 13th that meets one", RefusedCallsTest::fullStep, x -> x.stage(5, 18, 77, false, false));
    }

    private static void promise04Refused() {
        changesNothing("at an output", RefusedCallsTest::some, x -> x.stage(5, 1, 77, false, false), -2);
        changesNothing("within an output", RefusedCallsTest::some, x -> x.stage(5, 3, 77, false, false), -2);
        changesNothing("around its own", RefusedCallsTest::some, x -> x.stage(5, 0, 77, false, false), -2);
        changesNothing("within an output elsewhere", RefusedCallsTest::some,
            x -> x.stage(6, 2, 77, false, false), -2);
    }

    private static void promise04NotCached() {
        changesNothing("where one is staged", RefusedCallsTest::some, x -> x.stage(5, 2, 77, false, true), -3);
        changesNothing("where one is staged lazily", RefusedCallsTest::some,
            x -> x.stage(6, 4, 77, true, true), -3);
    }

    private static void promise05NoSuchOpenStep() {
        for (int step : new int[] {Integer.MIN_VALUE, -1, 0, 4, 7, 80, Integer.MAX_VALUE}) {
            refused("well, step " + step, RefusedCallsTest::some, x -> x.end(step, true));
            refused("badly, step " + step, RefusedCallsTest::some, x -> x.end(step, false));
        }
    }

    private static void promise06NoSuchRun() {
        for (int run : new int[] {Integer.MIN_VALUE, -1, 8, Integer.MAX_VALUE}) {
            refused("run " + run, RefusedCallsTest::some, x -> x.abandon(run));
        }
    }

    private static void promise06NoneOpen() {
        changesNothing("run 0", RefusedCallsTest::some, x -> x.abandon(0), 0);
        changesNothing("run 7", RefusedCallsTest::some, x -> x.abandon(7), 0);
    }

    private static void promise07Zero() {
        changesNothing("on", RefusedCallsTest::some, x -> number(x.cache(0, true)), 0);
        changesNothing("off", RefusedCallsTest::some, x -> number(x.cache(0, false)), 0);
    }

    private static void promise07Sixty() {
        changesNothing("a 61st", RefusedCallsTest::fullCache, x -> number(x.cache(61, true)), 0);
        changesNothing("the least", RefusedCallsTest::fullCache, x -> number(x.cache(Long.MIN_VALUE, true)), 0);
    }

    private static void promise07WhatIsSoAlready() {
        changesNothing("on when full", RefusedCallsTest::fullCache, x -> number(x.cache(8, true)), 1);
        changesNothing("off when full", RefusedCallsTest::fullCache, x -> number(x.cache(61, false)), 1);
        changesNothing("on", RefusedCallsTest::some, x -> number(x.cache(9, true)), 1);
        changesNothing("off", RefusedCallsTest::some, x -> number(x.cache(6, false)), 1);
    }

    private static void promise08NotAsTold() {
        for (int wrong : new int[] {Integer.MIN_VALUE, -1, 5, Integer.MAX_VALUE}) {
            refused("a configuration " + wrong, RefusedCallsTest::some, x -> x.read(wrong, 1));
            refused("a path " + wrong, RefusedCallsTest::some, x -> x.read(0, wrong));
        }
        refused("configuration 4", RefusedCallsTest::some, x -> x.read(4, 1));
    }

    private static void promise08AHundred() {
        refused("there", RefusedCallsTest::fullHolds, x -> x.read(0, 1));
        refused("lazy", RefusedCallsTest::fullHolds, x -> x.read(0, 4));
        refused("lazy and not cached", RefusedCallsTest::fullHolds, x -> x.read(1, 0));
        refused("none", RefusedCallsTest::fullHolds, x -> x.read(3, 0));
    }

    private static void promise08NoOutput() {
        changesNothing("never", RefusedCallsTest::some, x -> x.read(3, 0), -2);
        changesNothing("staged", RefusedCallsTest::some, x -> x.read(0, 2), -2);
        changesNothing("lost", RefusedCallsTest::some, x -> x.read(2, 0), -2);
    }

    private static void promise09Asking() {
        changesNothing("held", RefusedCallsTest::some, x -> x.held(0), 7);
        changesNothing("let go", RefusedCallsTest::some, x -> x.held(1), 0);
        changesNothing("none such", RefusedCallsTest::some, x -> x.held(2), 0);
    }

    private static void promise10NoSuchHold() {
        for (int hold : new int[] {Integer.MIN_VALUE, -1, 1, 2, 100, Integer.MAX_VALUE}) {
            changesNothing("hold " + hold, RefusedCallsTest::some, x -> number(x.letGo(hold)), 0);
        }
        changesNothing("hold 100", RefusedCallsTest::fullHolds, x -> number(x.letGo(100)), 0);
    }

    private static void promise11Asking() {
        changesNothing("there", RefusedCallsTest::some, x -> x.content(0, 1), 7);
        changesNothing("lazy", RefusedCallsTest::some, x -> x.content(0, 4), 8);
        changesNothing("to be lost", RefusedCallsTest::some, x -> x.content(1, 0), 6);
        changesNothing("none such", RefusedCallsTest::some, x -> x.content(4, 5), 0);
    }

    private static void promise12Asking() {
        changesNothing("lazy", RefusedCallsTest::some, x -> x.about(0, 4, 2), 0);
        changesNothing("to be lost", RefusedCallsTest::some, x -> x.about(1, 0, 2), 0);
        changesNothing("another what", RefusedCallsTest::some, x -> x.about(1, 0, 4), NONE);
    }

    private static void promise13Asking() {
        changesNothing("a lazy one", RefusedCallsTest::some, x -> x.list(0, NONE, 1), 4);
        changesNothing("one to be lost", RefusedCallsTest::some, x -> x.list(1, 0, 0), 0);
        changesNothing("none such", RefusedCallsTest::some, x -> x.list(0, 5, 0), NONE);
    }

    private static void promise14Asking() {
        changesNothing("dirty", RefusedCallsTest::some, x -> number(x.dirty(4, 2)), 1);
        changesNothing("not dirty", RefusedCallsTest::some, x -> number(x.dirty(3, 1)), 0);
        changesNothing("none such", RefusedCallsTest::some, x -> number(x.dirty(12, 4)), 0);
    }

    private static void promise15NoSuchConfiguration() {
        for (int configuration : new int[] {Integer.MIN_VALUE, -1, 4, Integer.MAX_VALUE}) {
            refused("configuration " + configuration, RefusedCallsTest::some, x -> x.clear(configuration));
        }
    }

    private static void promise15AStepIsOpenThere() {
        refused("configuration 0", RefusedCallsTest::some, x -> x.clear(0));
        refused("configuration 1", RefusedCallsTest::some, x -> x.clear(1));
        refused("configuration 3", RefusedCallsTest::fullSteps, x -> x.clear(3));
    }

    private static void promise15NothingToClear() {
        changesNothing("nothing but dirt", RefusedCallsTest::some, x -> x.clear(2), 0);
        changesNothing("nothing at all", RefusedCallsTest::some, x -> x.clear(3), 0);
    }

    private static void promise16Asking() {
        changesNothing("of an output and a hold", RefusedCallsTest::some, x -> x.copies(7), 2);
        changesNothing("of what is staged", RefusedCallsTest::some, x -> x.copies(5), 1);
        changesNothing("of a lazy one", RefusedCallsTest::some, x -> x.copies(8), 0);
        changesNothing("of 0", RefusedCallsTest::some, x -> x.copies(0), 0);
    }

    private static void promise17Asking() {
        changesNothing("stored", RefusedCallsTest::some, OutputStore::stored, 2);
        changesNothing("stored, full of holds", RefusedCallsTest::fullHolds, OutputStore::stored, 2);
        changesNothing("twice", RefusedCallsTest::some, x -> x.stored() + x.stored(), 4);
    }
}
