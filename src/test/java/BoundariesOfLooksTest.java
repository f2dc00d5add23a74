/** Promises 11 to 17: one test for each sentence that names a boundary case. */
public final class BoundariesOfLooksTest {
    private static final int NONE = OutputStore.NONE;

    public static void main(String[] args) throws ReflectiveOperationException {
        Checks.runAll(BoundariesOfLooksTest.class, 11, 17);
        Checks.finish();
    }

    private static void due(String call, long got, long want) {
        Checks.due(call, got, want);
    }

    private static void due(String call, boolean got, boolean want) {
        Checks.due(call, got, want);
    }

    /** STEPS of four TARGETS that stage all 40 PATHS of a CONFIGURATION, with CONTENTS from first on. */
    private static void stageForty(OutputStore x, int configuration, long first, long more) {
        for (int target = 0; target < 4; target++) {
            int step = x.begin(target, configuration, 0);
            for (int path = target * 10; path < target * 10 + 10; path++) {
                due("stageForty", x.stage(step, path, first + path * more, false, false), 1);
            }
        }
    }

    /** Ends the four STEPS that stageForty opened last. */
    private static void endForty(OutputStore x, int firstStep) {
        for (int step = firstStep; step < firstStep + 4; step++) {
            due("endForty", x.end(step, true), 0);
        }
    }

    // Promise 11: content.

    private static void promise11ConfigurationsZeroToThree() {
        OutputStore x = Scenes.withPaths(1);
        Scenes.make(x, 0, 0, 0, 5);
        Scenes.make(x, 0, 3, 0, 6);
        for (int configuration : Scenes.outside(0, 3)) {
            due("configuration " + configuration, x.content(configuration, 0), 0);
        }
        due("configuration 0", x.content(0, 0), 5);
        due("configuration 3", x.content(3, 0), 6);
    }

    private static void promise11NoSuchPath() {
        OutputStore empty = new OutputStore();
        for (int path : Scenes.outside(0, -1)) {
            due("of none, path " + path, empty.content(0, path), 0);
        }
        OutputStore x = Scenes.withPaths(40);
        Scenes.make(x, 0, 0, 0, 5);
        Scenes.make(x, 1, 0, 39, 6);
        Scenes.make(x, 0, 1, 0, 7);
        Scenes.make(x, 1, 1, 39, 8);
        for (int path : Scenes.outside(0, 39)) {
            due("of forty, path " + path, x.content(0, path), 0);
            due("of forty, path " + path, x.content(1, path), 0);
        }
        due("the first", x.content(0, 0), 5);
        due("the last", x.content(0, 39), 6);
        due("the first", x.content(1, 0), 7);
        due("the last", x.content(1, 39), 8);
    }

    private static void promise11ZeroIfThereIsNone() {
        OutputStore x = Scenes.withTree();
        due("never", x.content(0, 0), 0);
        int step = x.begin(0, 0, 0);
        x.stage(step, 1, 5, false, false);
        due("staged", x.content(0, 1), 0);
        x.end(step, true);
        due("at it", x.content(0, 1), 5);
        due("around it", x.content(0, 0), 0);
        due("within it", x.content(0, 3), 0);
        due("in another configuration", x.content(1, 1), 0);
        x.end(x.begin(0, 0, 0), true);
        due("stale", x.content(0, 1), 0);
        Scenes.make(x, 0, 0, 1, 5);
        x.clear(0);
        due("cleared", x.content(0, 1), 0);
        Scenes.makeToLose(x, 0, 0, 1, 6);
        due("lazy", x.content(0, 1), 6);
        x.read(0, 1);
        due("lost", x.content(0, 1), 0);
    }

    // Promise 12: about.

    private static void promise12WhatZeroToThree() {
        OutputStore x = Scenes.withPaths(1);
        int step = x.begin(11, 0, 0);
        x.stage(step, 0, 5, true, false);
        x.end(step, true);
        for (int what : Scenes.outside(0, 3)) {
            due("what " + what, x.about(0, 0, what), NONE);
        }
        due("what 0", x.about(0, 0, 0), 11);
        due("what 1", x.about(0, 0, 1), 1);
        due("what 2", x.about(0, 0, 2), 1);
        due("what 3", x.about(0, 0, 3), 0);
    }

    private static void promise12NoneIfThereIsNone() {
        OutputStore x = Scenes.withPaths(2);
        x.begin(0, 0, 0);
        x.stage(0, 0, 5, true, false);
        for (int what = -1; what <= 4; what++) {
            due("staged", x.about(0, 0, what), NONE);
            due("never", x.about(0, 1, what), NONE);
        }
        x.end(0, true);
        x.clear(0);
        for (int what = -1; what <= 4; what++) {
            due("cleared", x.about(0, 0, what), NONE);
        }
    }

    private static void promise12ConfigurationsZeroToThree() {
        OutputStore x = Scenes.withPaths(1);
        Scenes.make(x, 1, 0, 0, 5);
        Scenes.make(x, 2, 3, 0, 5);
        for (int configuration : Scenes.outside(0, 3)) {
            for (int what = 0; what < 4; what++) {
                due("configuration " + configuration, x.about(configuration, 0, what), NONE);
            }
        }
        due("configuration 0", x.about(0, 0, 0), 1);
        due("configuration 3", x.about(3, 0, 0), 2);
    }

    private static void promise12NoSuchPath() {
        OutputStore x = Scenes.withPaths(40);
        Scenes.make(x, 1, 0, 39, 5);
        Scenes.make(x, 2, 1, 0, 5);
        for (int path : Scenes.outside(0, 39)) {
            for (int what = 0; what < 4; what++) {
                due("path " + path, x.about(0, path, what), NONE);
                due("path " + path, x.about(1, path, what), NONE);
            }
        }
        due("the last", x.about(0, 39, 0), 1);
        due("the first", x.about(1, 0, 0), 2);
    }

    private static void promise12TheFirstAndTheLastTarget() {
        OutputStore x = Scenes.withPaths(2);
        Scenes.make(x, 0, 0, 0, 5);
        Scenes.make(x, 11, 0, 1, 5);
        due("target 0", x.about(0, 0, 0), 0);
        due("target 11", x.about(0, 1, 0), 11);
    }

    private static void promise12TheFirstAndTheLastStep() {
        OutputStore x = Scenes.withPaths(2);
        Scenes.make(x, 0, 0, 0, 5);
        for (int step = 1; step < 79; step++) {
            x.begin(1, 0, 0);
            x.end(step, true);
        }
        due("the 80th", Scenes.make(x, 1, 0, 1, 5), 79);
        due("step 0", x.about(0, 0, 3), 0);
        due("step 79", x.about(0, 1, 3), 79);
        due("target of step 79", x.about(0, 1, 0), 1);
    }

    private static void promise12ExecutableAndLazyAreTwoThings() {
        for (int kind = 0; kind < 4; kind++) {
            boolean executable = kind % 2 == 1;
            boolean lazy = kind / 2 == 1;
            OutputStore x = Scenes.withPaths(1);
            x.begin(0, 0, 0);
            x.cache(5, true);
            x.stage(0, 0, 5, executable, lazy);
            x.end(0, true);
            due("executable", x.about(0, 0, 1), executable ? 1 : 0);
            due("there", x.about(0, 0, 2), lazy ? 0 : 1);
            x.read(0, 0);
            due("executable", x.about(0, 0, 1), executable ? 1 : 0);
            due("there", x.about(0, 0, 2), 1);
        }
    }

    private static void promise12AskingChangesNothing() {
        OutputStore x = Scenes.withPaths(1);
        Scenes.makeToLose(x, 0, 0, 0, 5);
        for (int what = -1; what <= 4; what++) {
            x.about(0, 0, what);
        }
        due("lazy still", x.about(0, 0, 2), 0);
        due("content", x.content(0, 0), 5);
        due("not dirty", x.dirty(0, 0), false);
    }

    // Promise 13: list.

    /** OUTPUTS at 2, 3 and 4 of the tree, in CONFIGURATION 1. */
    private static OutputStore withThree() {
        OutputStore x = Scenes.withTree();
        x.begin(0, 1, 0);
        x.stage(0, 4, 7, false, false);
        x.stage(0, 2, 5, false, false);
        x.stage(0, 3, 6, false, false);
        x.end(0, true);
        return x;
    }

    private static void promise13IFromZeroToTheLast() {
        OutputStore x = withThree();
        due("the first", x.list(1, NONE, 0), 2);
        due("the second", x.list(1, NONE, 1), 3);
        due("the last", x.list(1, NONE, 2), 4);
        for (int i : Scenes.outside(0, 2)) {
            due("i " + i, x.list(1, NONE, i), NONE);
        }
        due("the first in 0", x.list(1, 0, 0), 2);
        due("the last in 0", x.list(1, 0, 1), 3);
        for (int i : Scenes.outside(0, 1)) {
            due("i " + i + " in 0", x.list(1, 0, i), NONE);
        }
    }

    private static void promise13NoSuchPath() {
        OutputStore x = withThree();
        for (int path : Scenes.outside(NONE, 4)) {
            due("path " + path, x.list(1, path, 0), NONE);
        }
        OutputStore y = Scenes.withPaths(40);
        Scenes.make(y, 0, 0, 39, 5);
        Scenes.make(y, 0, 1, 0, 5);
        for (int path : Scenes.outside(NONE, 39)) {
            due("path " + path, y.list(0, path, 0), NONE);
            due("path " + path, y.list(1, path, 0), NONE);
        }
        due("the last", y.list(0, 39, 0), 39);
        due("the first", y.list(1, 0, 0), 0);
    }

    private static void promise13ConfigurationsZeroToThree() {
        OutputStore x = Scenes.withPaths(2);
        Scenes.make(x, 0, 0, 0, 5);
        Scenes.make(x, 0, 3, 1, 5);
        for (int configuration : Scenes.outside(0, 3)) {
            due("configuration " + configuration, x.list(configuration, NONE, 0), NONE);
            due("configuration " + configuration, x.list(configuration, 0, 0), NONE);
        }
        due("configuration 0", x.list(0, NONE, 0), 0);
        due("configuration 1", x.list(1, NONE, 0), NONE);
        due("configuration 3", x.list(3, NONE, 0), 1);
    }

    private static void promise13WithinOrAtIt() {
        OutputStore x = withThree();
        due("at it", x.list(1, 2, 0), 2);
        due("at it and no more", x.list(1, 2, 1), NONE);
        due("within it", x.list(1, 1, 0), 3);
        due("within it and no more", x.list(1, 1, 1), NONE);
        due("at the deepest", x.list(1, 3, 0), 3);
        due("at the top", x.list(1, 4, 0), 4);
        due("at the top and no more", x.list(1, 4, 1), NONE);
    }

    private static void promise13ThroughFortyLevels() {
        OutputStore x = Scenes.withChain();
        Scenes.make(x, 0, 0, 20, 5);
        for (int path = 0; path < 40; path++) {
            due("list in " + path, x.list(0, path, 0), path <= 20 ? 20 : NONE);
        }
    }

    private static void promise13TheDeepestOfAll() {
        OutputStore x = Scenes.withChain();
        Scenes.make(x, 0, 0, 39, 5);
        due("all of the configuration", x.list(0, NONE, 0), 39);
        due("within the outermost", x.list(0, 0, 0), 39);
        due("at it", x.list(0, 39, 0), 39);
        due("no more", x.list(0, NONE, 1), NONE);
    }

    private static void promise13FortyOutputs() {
        OutputStore x = Scenes.withPaths(40);
        stageForty(x, 3, 100, 1);
        due("none yet", x.list(3, NONE, 0), NONE);
        endForty(x, 0);
        for (int i = 0; i < 40; i++) {
            due("the i-th", x.list(3, NONE, i), i);
        }
        for (int i : Scenes.outside(0, 39)) {
            due("i " + i, x.list(3, NONE, i), NONE);
        }
    }

    private static void promise13AFolderOfThirtyNine() {
        OutputStore x = new OutputStore();
        x.path(NONE);
        for (int path = 1; path < 40; path++) {
            x.path(0);
        }
        for (int target = 0; target < 4; target++) {
            Scenes.makeMany(x, target, 0, 1 + target * 10, target == 3 ? 9 : 10, 100);
        }
        due("the first", x.list(0, 0, 0), 1);
        due("the last", x.list(0, 0, 38), 39);
        due("no more", x.list(0, 0, 39), NONE);
    }

    private static void promise13ByNumbersNotByTimes() {
        OutputStore x = Scenes.withPaths(3);
        Scenes.make(x, 2, 0, 2, 5);
        Scenes.make(x, 1, 0, 0, 6);
        Scenes.make(x, 0, 0, 1, 7);
        for (int i = 0; i < 3; i++) {
            due("the i-th", x.list(0, NONE, i), i);
        }
    }

    private static void promise13EmptyAgain() {
        OutputStore x = withThree();
        x.clear(1);
        for (int path = NONE; path < 5; path++) {
            due("cleared", x.list(1, path, 0), NONE);
        }
        Scenes.makeToLose(x, 0, 1, 4, 5);
        due("a lazy one", x.list(1, NONE, 0), 4);
        x.read(1, 4);
        due("lost", x.list(1, NONE, 0), NONE);
    }

    // Promise 14: dirty.

    private static void promise14TargetsZeroToEleven() {
        OutputStore x = Scenes.withPaths(1);
        Scenes.soil(x, 0, 1, 0);
        Scenes.soil(x, 11, 1, 0);
        for (int target : Scenes.outside(0, 11)) {
            for (int configuration = 0; configuration < 4; configuration++) {
                due("target " + target, x.dirty(target, configuration), false);
            }
        }
        due("target 0", x.dirty(0, 1), true);
        due("target 11", x.dirty(11, 1), true);
    }

    private static void promise14ConfigurationsZeroToThree() {
        OutputStore x = Scenes.withPaths(1);
        Scenes.soil(x, 1, 0, 0);
        Scenes.soil(x, 1, 3, 0);
        for (int configuration : Scenes.outside(0, 3)) {
            for (int target = 0; target < 12; target++) {
                due("configuration " + configuration, x.dirty(target, configuration), false);
            }
        }
        due("configuration 0", x.dirty(1, 0), true);
        due("configuration 3", x.dirty(1, 3), true);
    }

    private static void promise14EachTargetAndConfigurationForItself() {
        for (int target : new int[] {0, 4, 11}) {
            for (int configuration = 0; configuration < 4; configuration++) {
                OutputStore x = Scenes.withPaths(1);
                Scenes.soil(x, target, configuration, 0);
                int dirty = 0;
                for (int other = 0; other < 48; other++) {
                    dirty += x.dirty(other % 12, other / 12) ? 1 : 0;
                }
                due("it is dirty", x.dirty(target, configuration), true);
                due("and no other one", dirty, 1);
            }
        }
    }

    private static void promise14AllAtOnce() {
        OutputStore x = Scenes.withPaths(12);
        x.cache(9, true);
        for (int step = 0; step < 48; step++) {
            x.begin(step % 12, step / 12, 0);
            x.stage(step, step % 12, 9, false, true);
            x.end(step, true);
        }
        x.cache(9, false);
        for (int step = 0; step < 48; step++) {
            due("lost", x.read(step / 12, step % 12), -3);
            due("dirty", x.dirty(step % 12, step / 12), true);
        }
        for (int step = 48; step < 52; step++) {
            x.end(x.begin(step % 12, 3, 0), true);
        }
        for (int target = 0; target < 12; target++) {
            due("dirty", x.dirty(target, 3), target >= 4);
        }
    }

    private static void promise14TillAStepOfItEndsWellThere() {
        OutputStore x = Scenes.withPaths(2);
        Scenes.soil(x, 5, 1, 0);
        x.end(x.begin(5, 1, 0), false);
        due("badly", x.dirty(5, 1), true);
        x.begin(5, 1, 2);
        x.abandon(2);
        due("abandoned", x.dirty(5, 1), true);
        Scenes.make(x, 5, 0, 0, 5);
        due("well in another configuration", x.dirty(5, 1), true);
        Scenes.make(x, 4, 1, 0, 5);
        due("well of another target", x.dirty(5, 1), true);
        x.clear(1);
        due("cleared", x.dirty(5, 1), true);
        int step = x.begin(5, 1, 0);
        x.stage(step, 1, 6, false, false);
        due("begun and staged", x.dirty(5, 1), true);
        x.end(step, true);
        due("well", x.dirty(5, 1), false);
    }

    private static void promise14DirtyTwice() {
        OutputStore x = Scenes.withPaths(2);
        x.cache(9, true);
        x.begin(0, 0, 0);
        x.stage(0, 0, 9, false, true);
        x.stage(0, 1, 9, false, true);
        x.end(0, true);
        x.cache(9, false);
        due("lost", x.read(0, 0), -3);
        due("lost", x.read(0, 1), -3);
        due("dirty", x.dirty(0, 0), true);
        x.end(x.begin(0, 0, 0), true);
        due("once well is enough", x.dirty(0, 0), false);
    }

    private static void promise14DirtyAgain() {
        OutputStore x = Scenes.withPaths(1);
        Scenes.soil(x, 0, 0, 0);
        Scenes.makeToLose(x, 0, 0, 0, 5);
        due("clean", x.dirty(0, 0), false);
        x.read(0, 0);
        due("dirty again", x.dirty(0, 0), true);
    }

    private static void promise14OfTheTargetThatMadeIt() {
        OutputStore x = Scenes.withPaths(1);
        Scenes.make(x, 3, 0, 0, 5);
        x.clear(0);
        Scenes.soil(x, 8, 0, 0);
        due("it", x.dirty(8, 0), true);
        due("not who was there before", x.dirty(3, 0), false);
    }

    // Promise 15: clear.

    private static void promise15ConfigurationsZeroToThree() {
        OutputStore x = Scenes.withPaths(1);
        for (int configuration = 0; configuration < 4; configuration++) {
            Scenes.make(x, 0, configuration, 0, 5);
        }
        for (int configuration : Scenes.outside(0, 3)) {
            due("configuration " + configuration, x.clear(configuration), NONE);
        }
        due("nothing went", x.copies(5), 4);
        due("configuration 0", x.clear(0), 1);
        due("configuration 3", x.clear(3), 1);
        due("the others stay", x.copies(5), 2);
        due("configuration 1", x.content(1, 0), 5);
        due("configuration 2", x.content(2, 0), 5);
    }

    private static void promise15ZeroIfThereAreNone() {
        OutputStore empty = new OutputStore();
        for (int configuration = 0; configuration < 4; configuration++) {
            due("no paths", empty.clear(configuration), 0);
        }
        OutputStore x = Scenes.withPaths(1);
        Scenes.make(x, 0, 0, 0, 5);
        due("one", x.clear(0), 1);
        due("again", x.clear(0), 0);
        Scenes.soil(x, 0, 0, 0);
        due("it was lost", x.clear(0), 0);
    }

    private static void promise15FortyOutputs() {
        OutputStore x = Scenes.withPaths(40);
        stageForty(x, 2, 100, 1);
        endForty(x, 0);
        due("forty", x.clear(2), 40);
        due("none left", x.list(2, NONE, 0), NONE);
        due("nothing stored", x.stored(), 0);
        due("again", x.clear(2), 0);
    }

    private static void promise15NoneIfAStepIsOpenThere() {
        OutputStore x = Scenes.withPaths(1);
        Scenes.make(x, 0, 2, 0, 5);
        x.begin(11, 2, 0);
        due("open", x.clear(2), NONE);
        due("nothing went", x.content(2, 0), 5);
        x.end(1, true);
        due("it ended well", x.clear(2), 1);
        x.begin(11, 2, 0);
        due("open, and there are none", x.clear(2), NONE);
        x.end(2, false);
        due("it ended badly", x.clear(2), 0);
        x.begin(11, 2, 4);
        due("open", x.clear(2), NONE);
        x.abandon(4);
        due("it was abandoned", x.clear(2), 0);
    }

    private static void promise15OpenElsewhereIsFine() {
        OutputStore x = Scenes.withPaths(1);
        Scenes.make(x, 0, 2, 0, 5);
        x.stage(x.begin(0, 1, 0), 0, 6, false, false);
        x.begin(0, 3, 0);
        due("clear", x.clear(2), 1);
        due("open there", x.clear(1), NONE);
        due("open there", x.clear(3), NONE);
        due("staged still", x.copies(6), 1);
    }

    private static void promise15TheFirstOfAllIsOpen() {
        OutputStore x = new OutputStore();
        x.begin(0, 0, 0);
        due("open", x.clear(0), NONE);
        x.end(0, true);
        due("ended", x.clear(0), 0);
    }

    private static void promise15TheLastOfEightyIsOpen() {
        OutputStore x = new OutputStore();
        for (int step = 0; step < 80; step++) {
            x.begin(0, 3, 0);
            if (step < 79) {
                x.end(step, true);
            }
        }
        due("open", x.clear(3), NONE);
        x.end(79, true);
        due("ended", x.clear(3), 0);
    }

    private static void promise15LazyOnesGoToo() {
        OutputStore x = Scenes.withPaths(2);
        Scenes.makeToLose(x, 0, 0, 0, 5);
        Scenes.make(x, 1, 0, 1, 6);
        due("two", x.clear(0), 2);
        due("not lost", x.dirty(0, 0), false);
        due("gone", x.read(0, 0), -2);
    }

    private static void promise15HoldsDirtyAndCacheStay() {
        OutputStore x = Scenes.withPaths(2);
        Scenes.soil(x, 0, 0, 0);
        Scenes.makeLazy(x, 1, 0, 1, 6);
        x.read(0, 1);
        due("one", x.clear(0), 1);
        due("held", x.held(0), 6);
        due("stored", x.copies(6), 1);
        due("dirty", x.dirty(0, 0), true);
        due("not dirty", x.dirty(1, 0), false);
        x.begin(1, 0, 0);
        due("cached", x.stage(2, 1, 6, false, true), 1);
    }

    private static void promise15StaleNoMore() {
        OutputStore x = Scenes.withPaths(1);
        Scenes.make(x, 0, 0, 0, 5);
        x.clear(0);
        due("another target may come", Scenes.make(x, 1, 0, 0, 6), 1);
        due("its own", x.about(0, 0, 0), 1);
        due("none stale", x.end(x.begin(0, 0, 0), true), 0);
        due("it stays", x.content(0, 0), 6);
    }

    // Promise 16: copies.

    private static void promise16OfZeroNone() {
        OutputStore x = Scenes.withPaths(2);
        due("new", x.copies(0), 0);
        Scenes.make(x, 0, 0, 0, 5);
        x.read(0, 0);
        x.letGo(0);
        x.clear(0);
        due("after a hold was let go and an output went", x.copies(0), 0);
        x.begin(0, 0, 0);
        x.stage(1, 0, 0, false, false);
        due("staging of 0 was refused", x.copies(0), 0);
    }

    private static void promise16EveryContentForItself() {
        OutputStore x = Scenes.withPaths(12);
        x.begin(0, 0, 0);
        for (int path = 0; path < 12; path++) {
            due("none yet", x.copies(Scenes.CONTENTS[path]), 0);
            x.stage(0, path, Scenes.CONTENTS[path], false, false);
            due("one", x.copies(Scenes.CONTENTS[path]), 1);
        }
        due("of 0", x.copies(0), 0);
        due("of 2", x.copies(2), 0);
    }

    private static void promise16OfOutputsThatAreThere() {
        OutputStore x = Scenes.withPaths(2);
        for (int configuration = 0; configuration < 4; configuration++) {
            due("so far", x.copies(5), configuration);
            Scenes.make(x, configuration, configuration, 1, 5);
        }
        Scenes.makeLazy(x, 0, 1, 0, 5);
        due("not of a lazy one", x.copies(5), 4);
        x.read(1, 0);
        due("restored and held", x.copies(5), 6);
    }

    private static void promise16OfWhatIsStagedNotLazily() {
        OutputStore x = Scenes.withPaths(2);
        x.begin(0, 0, 0);
        x.cache(5, true);
        x.stage(0, 0, 5, false, true);
        due("lazily", x.copies(5), 0);
        x.stage(0, 1, 5, false, false);
        due("not lazily", x.copies(5), 1);
        x.end(0, false);
        due("of an open step alone", x.copies(5), 0);
    }

    private static void promise16StagedBecomesAnOutputOnce() {
        OutputStore x = Scenes.withPaths(1);
        Scenes.make(x, 0, 0, 0, 5);
        x.begin(0, 0, 0);
        x.stage(1, 0, 5, false, false);
        due("an output and a staged one", x.copies(5), 2);
        x.end(1, true);
        due("an output", x.copies(5), 1);
    }

    private static void promise16OfHoldsEach() {
        OutputStore x = Scenes.withPaths(1);
        Scenes.holdAll(x);
        x.clear(0);
        due("100 holds", x.copies(5), 100);
        x.letGo(0);
        x.letGo(99);
        due("98 holds", x.copies(5), 98);
    }

    /** 160 OUTPUTS, 160 STAGED ones and 100 HOLDS: all that fits at once, in 508 calls. */
    private static OutputStore fullest(long first, long more) {
        OutputStore x = Scenes.withPaths(40);
        for (int configuration = 0; configuration < 4; configuration++) {
            stageForty(x, configuration, first + configuration * 40 * more, more);
            endForty(x, configuration * 4);
        }
        for (int hold = 0; hold < 100; hold++) {
            due("fullest: hold", x.read(hold / 40, hold % 40), hold);
        }
        for (int configuration = 0; configuration < 4; configuration++) {
            stageForty(x, configuration, first + (160 + configuration * 40) * more, more);
        }
        return x;
    }

    private static void promise16TheMostThatFits() {
        OutputStore x = fullest(Long.MAX_VALUE, 0);
        due("copies", x.copies(Long.MAX_VALUE), 420);
        due("stored", x.stored(), 1);
    }

    // Promise 17: stored.

    private static void promise17ZeroIfEmptyAgain() {
        OutputStore x = Scenes.withPaths(1);
        due("new", x.stored(), 0);
        x.begin(0, 0, 0);
        due("nothing staged", x.stored(), 0);
        x.stage(0, 0, 5, false, false);
        due("staged", x.stored(), 1);
        x.end(0, true);
        due("an output", x.stored(), 1);
        x.read(0, 0);
        due("and a hold", x.stored(), 1);
        x.clear(0);
        due("a hold", x.stored(), 1);
        x.letGo(0);
        due("none", x.stored(), 0);
    }

    private static void promise17DifferentContents() {
        OutputStore x = Scenes.withPaths(12);
        x.begin(0, 0, 0);
        for (int path = 0; path < 12; path++) {
            x.stage(0, path, Scenes.CONTENTS[path], false, false);
            due("staged", x.stored(), path + 1);
        }
        x.end(0, true);
        due("outputs", x.stored(), 12);
        x.begin(0, 1, 0);
        for (int path = 0; path < 12; path++) {
            x.stage(1, path, Scenes.CONTENTS[11 - path], false, false);
            due("staged elsewhere", x.stored(), 12);
        }
    }

    private static void promise17LazyOnesAreNotStored() {
        OutputStore x = Scenes.withPaths(1);
        Scenes.makeLazy(x, 0, 0, 0, 5);
        due("lazy", x.stored(), 0);
        x.read(0, 0);
        due("there", x.stored(), 1);
        x.letGo(0);
        due("there still", x.stored(), 1);
        Scenes.soil(x, 0, 0, 0);
        due("lost", x.stored(), 0);
    }

    private static void promise17TheMostThatFits() {
        OutputStore x = fullest(1, 1);
        due("stored", x.stored(), 320);
        due("an output and a hold", x.copies(100), 2);
        due("an output", x.copies(101), 1);
    }

    private static void promise17HoldsOfWhatIsGone() {
        OutputStore x = Scenes.withPaths(40);
        for (int configuration = 0; configuration < 3; configuration++) {
            stageForty(x, configuration, 1 + configuration * 40, 1);
            endForty(x, configuration * 4);
        }
        for (int hold = 0; hold < 100; hold++) {
            due("hold", x.read(hold / 40, hold % 40), hold);
        }
        for (int configuration = 0; configuration < 3; configuration++) {
            due("clear", x.clear(configuration), 40);
        }
        due("100 holds", x.stored(), 100);
        stageForty(x, 3, 1001, 1);
        due("and 40 staged", x.stored(), 140);
        x.letGo(99);
        due("one let go", x.stored(), 139);
    }
}
