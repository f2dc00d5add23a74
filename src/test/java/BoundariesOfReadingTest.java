/** Promises 7 to 10: one test for each sentence that names a boundary case. */
public final class BoundariesOfReadingTest {
    private static final int NONE = OutputStore.NONE;

    public static void main(String[] args) throws ReflectiveOperationException {
        Checks.runAll(BoundariesOfReadingTest.class, 7, 10);
        Checks.finish();
    }

    private static void due(String call, long got, long want) {
        Checks.due(call, got, want);
    }

    private static void due(String call, boolean got, boolean want) {
        Checks.due(call, got, want);
    }

    /** Whether the CACHE has a CONTENT, asked by staging it as LAZY in an OPEN STEP 0 at PATH 0. */
    private static void dueCached(OutputStore x, long content, boolean want) {
        due("cached " + content, x.stage(0, 0, content, false, true), want ? 1 : -3);
    }

    /** PATH 0 and an OPEN STEP 0. */
    private static OutputStore withOpenStep() {
        OutputStore x = Scenes.withPaths(1);
        due("begin", x.begin(0, 0, 0), 0);
        return x;
    }

    /** The CACHE has 1 .. 60. */
    private static OutputStore withFullCache() {
        OutputStore x = withOpenStep();
        Scenes.cacheMany(x, 1, 60);
        return x;
    }

    // Promise 7: cache.

    private static void promise07FalseForZero() {
        OutputStore x = withOpenStep();
        due("0 on", x.cache(0, true), false);
        due("0 off", x.cache(0, false), false);
        Scenes.cacheMany(x, 1, 60);
        due("0 took no room; on when full", x.cache(0, true), false);
        due("0 off when full", x.cache(0, false), false);
    }

    private static void promise07EveryOtherContent() {
        OutputStore x = withOpenStep();
        for (long content : Scenes.CONTENTS) {
            due("on", x.cache(content, true), true);
            dueCached(x, content, true);
            due("off", x.cache(content, false), true);
            dueCached(x, content, false);
        }
        for (long content : Scenes.CONTENTS) {
            due("on", x.cache(content, true), true);
        }
        for (long content : Scenes.CONTENTS) {
            due("off", x.cache(content, false), true);
            dueCached(x, content, false);
        }
    }

    private static void promise07FalseIfThereWouldBeMoreThanSixty() {
        OutputStore x = withOpenStep();
        Scenes.cacheMany(x, 1, 59);
        due("the 60th", x.cache(60, true), true);
        due("a 61st", x.cache(61, true), false);
        due("the least", x.cache(Long.MIN_VALUE, true), false);
        due("the greatest", x.cache(Long.MAX_VALUE, true), false);
        dueCached(x, 61, false);
        dueCached(x, Long.MIN_VALUE, false);
        for (int content = 1; content <= 60; content++) {
            dueCached(x, content, true);
        }
    }

    private static void promise07OneThatItHasWhenFull() {
        OutputStore x = withFullCache();
        due("the first again", x.cache(1, true), true);
        due("the last again", x.cache(60, true), true);
        due("a 61st", x.cache(61, true), false);
    }

    private static void promise07TwiceOnIsOneContent() {
        OutputStore x = withOpenStep();
        due("on", x.cache(7, true), true);
        due("on again", x.cache(7, true), true);
        Scenes.cacheMany(x, 101, 59);
        due("a 61st", x.cache(61, true), false);
        due("off once", x.cache(7, false), true);
        dueCached(x, 7, false);
    }

    private static void promise07RoomAfterOneHasGone() {
        OutputStore x = withFullCache();
        due("off", x.cache(30, false), true);
        dueCached(x, 30, false);
        due("another one in its place", x.cache(61, true), true);
        dueCached(x, 61, true);
        due("full again", x.cache(30, true), false);
        due("full again", x.cache(62, true), false);
    }

    private static void promise07AnyOfTheSixtyMayGo() {
        for (int gone : new int[] {1, 2, 30, 59, 60}) {
            OutputStore x = withFullCache();
            due("off", x.cache(gone, false), true);
            for (int content = 1; content <= 60; content++) {
                dueCached(x, content, content != gone);
            }
        }
    }

    private static void promise07OffWhatItHasNot() {
        OutputStore x = withOpenStep();
        due("of none", x.cache(5, false), true);
        Scenes.cacheMany(x, 1, 60);
        due("of sixty", x.cache(61, false), true);
        due("no room came of it", x.cache(61, true), false);
        due("off", x.cache(60, false), true);
        due("off again", x.cache(60, false), true);
        due("room for one", x.cache(61, true), true);
        due("and not for two", x.cache(62, true), false);
    }

    private static void promise07EmptyAndFullAgain() {
        OutputStore x = withFullCache();
        for (int content = 1; content <= 60; content++) {
            due("off", x.cache(content, false), true);
        }
        dueCached(x, 1, false);
        dueCached(x, 60, false);
        Scenes.cacheMany(x, 61, 60);
        due("a 61st", x.cache(1, true), false);
        dueCached(x, 61, true);
        dueCached(x, 120, true);
    }

    private static void promise07WhatTheCacheHasIsNotStored() {
        OutputStore x = withFullCache();
        due("stored", x.stored(), 0);
        due("copies", x.copies(1), 0);
    }

    private static void promise07WhatIsThereNeedsNoCache() {
        OutputStore x = Scenes.withPaths(1);
        Scenes.makeLazy(x, 0, 0, 0, 5);
        x.read(0, 0);
        due("off", x.cache(5, false), true);
        due("there still", x.about(0, 0, 2), 1);
        due("an output and a hold", x.copies(5), 2);
    }

    private static void promise07OffChangesNoLazyOutputTillItIsRead() {
        OutputStore x = Scenes.withPaths(1);
        Scenes.makeToLose(x, 0, 0, 0, 5);
        due("content", x.content(0, 0), 5);
        due("lazy", x.about(0, 0, 2), 0);
        due("listed", x.list(0, NONE, 0), 0);
        due("not dirty", x.dirty(0, 0), false);
        due("on again", x.cache(5, true), true);
        due("restored", x.read(0, 0), 0);
    }

    // Promise 8: read.

    private static void promise08ConfigurationsZeroToThree() {
        OutputStore x = Scenes.withPaths(1);
        Scenes.make(x, 0, 0, 0, 5);
        Scenes.make(x, 0, 3, 0, 6);
        for (int configuration : Scenes.outside(0, 3)) {
            due("configuration " + configuration, x.read(configuration, 0), -1);
        }
        due("configuration 0", x.read(0, 0), 0);
        due("configuration 3", x.read(3, 0), 1);
    }

    private static void promise08NoSuchPath() {
        OutputStore empty = new OutputStore();
        for (int path : Scenes.outside(0, -1)) {
            due("of none, path " + path, empty.read(0, path), -1);
        }
        OutputStore x = Scenes.withPaths(2);
        Scenes.makeMany(x, 0, 0, 0, 2, 5);
        for (int path : Scenes.outside(0, 1)) {
            due("of two, path " + path, x.read(0, path), -1);
        }
        due("the first", x.read(0, 0), 0);
        due("the last", x.read(0, 1), 1);
    }

    private static void promise08TheLastOfFortyPaths() {
        OutputStore x = Scenes.withPaths(40);
        Scenes.make(x, 0, 0, 39, 5);
        Scenes.make(x, 0, 1, 0, 6);
        due("path 39", x.read(0, 39), 0);
        due("path 40 isn't the next configuration's first", x.read(0, 40), -1);
        due("path -1 isn't the former one's last", x.read(1, -1), -1);
    }

    private static void promise08MinusOneIfThereAreAHundred() {
        OutputStore x = Scenes.withPaths(1);
        Scenes.make(x, 0, 0, 0, 5);
        for (int i = 0; i < 99; i++) {
            due("read", x.read(0, 0), i);
        }
        due("the 100th", x.read(0, 0), 99);
        due("a 101st", x.read(0, 0), -1);
        due("an output and 100 holds", x.copies(5), 101);
    }

    private static void promise08ThoseLetGoCountAmongTheHundred() {
        OutputStore x = Scenes.withPaths(1);
        Scenes.holdAll(x);
        due("the last", x.letGo(99), true);
        due("full still", x.read(0, 0), -1);
        due("the first", x.letGo(0), true);
        due("full still", x.read(0, 0), -1);
        for (int hold = 1; hold < 99; hold++) {
            due("all", x.letGo(hold), true);
        }
        due("full still", x.read(0, 0), -1);
        due("the output alone", x.copies(5), 1);
    }

    private static void promise08LetGoOneByOneAHundredTimes() {
        OutputStore x = Scenes.withPaths(1);
        Scenes.make(x, 0, 0, 0, 5);
        for (int i = 0; i < 100; i++) {
            due("a new number", x.read(0, 0), i);
            due("let go", x.letGo(i), true);
        }
        due("a 101st", x.read(0, 0), -1);
    }

    private static void promise08AHundredAheadOfMinusTwo() {
        OutputStore x = Scenes.withPaths(2);
        Scenes.holdAll(x);
        due("no output", x.read(0, 1), -1);
        due("no output", x.read(3, 0), -1);
    }

    private static void promise08AHundredAheadOfMinusThree() {
        OutputStore x = Scenes.withPaths(2);
        Scenes.makeToLose(x, 1, 0, 1, 6);
        Scenes.holdAll(x);
        due("not in the cache", x.read(0, 1), -1);
        due("it isn't lost", x.content(0, 1), 6);
        due("nor dirty", x.dirty(1, 0), false);
    }

    private static void promise08AHundredRestoreNothing() {
        OutputStore x = Scenes.withPaths(2);
        Scenes.makeLazy(x, 1, 0, 1, 6);
        Scenes.holdAll(x);
        due("in the cache", x.read(0, 1), -1);
        due("lazy still", x.about(0, 1, 2), 0);
        due("not stored", x.copies(6), 0);
    }

    private static void promise08MinusTwoIfThereIsNoOutput() {
        OutputStore x = Scenes.withPaths(2);
        due("never", x.read(0, 0), -2);
        Scenes.make(x, 0, 0, 0, 5);
        due("at another path", x.read(0, 1), -2);
        due("in another configuration", x.read(1, 0), -2);
        int step = x.begin(1, 0, 0);
        x.stage(step, 1, 6, false, false);
        due("staged", x.read(0, 1), -2);
        x.end(step, false);
        due("ended badly", x.read(0, 1), -2);
        x.end(x.begin(0, 0, 0), true);
        due("stale", x.read(0, 0), -2);
        Scenes.make(x, 0, 0, 0, 5);
        x.clear(0);
        due("cleared", x.read(0, 0), -2);
        Scenes.make(x, 0, 0, 0, 5);
        due("none of these took a number", x.read(0, 0), 0);
    }

    private static void promise08WithinAPathIsNotAtIt() {
        OutputStore x = Scenes.withTree();
        Scenes.make(x, 0, 0, 1, 5);
        due("around", x.read(0, 0), -2);
        due("within", x.read(0, 3), -2);
        due("at", x.read(0, 1), 0);
    }

    private static void promise08MinusThreeIfItIsLost() {
        OutputStore x = Scenes.withPaths(2);
        int step = x.begin(0, 0, 0);
        x.cache(5, true);
        x.stage(step, 0, 5, false, true);
        x.stage(step, 1, 6, false, false);
        x.end(step, true);
        x.cache(5, false);
        due("lost", x.read(0, 0), -3);
        due("gone", x.content(0, 0), 0);
        due("gone", x.about(0, 0, 2), NONE);
        due("its target's other one stays", x.list(0, NONE, 0), 1);
        due("nothing is held", x.held(0), 0);
        due("lost once", x.read(0, 0), -2);
        due("no number was taken", x.read(0, 1), 0);
    }

    private static void promise08LostStaysLost() {
        OutputStore x = Scenes.withPaths(1);
        Scenes.makeToLose(x, 0, 0, 0, 5);
        due("lost", x.read(0, 0), -3);
        due("cached too late", x.cache(5, true), true);
        due("gone", x.read(0, 0), -2);
    }

    private static void promise08DirtyOfTheLostOnesTargetAndConfigurationAlone() {
        OutputStore x = Scenes.withPaths(1);
        Scenes.soil(x, 7, 2, 0);
        for (int target = 0; target < 12; target++) {
            for (int c = 0; c < 4; c++) {
                due("dirty(" + target + ", " + c + ")", x.dirty(target, c), target == 7 && c == 2);
            }
        }
    }

    private static void promise08ThereFromThenOn() {
        OutputStore x = Scenes.withPaths(1);
        Scenes.makeLazy(x, 0, 0, 0, 5);
        due("restored", x.read(0, 0), 0);
        due("there", x.about(0, 0, 2), 1);
        x.cache(5, false);
        due("without the cache", x.read(0, 0), 1);
        due("not dirty", x.dirty(0, 0), false);
        due("an output and two holds", x.copies(5), 3);
    }

    private static void promise08ReadingAsksTheCacheThen() {
        OutputStore x = Scenes.withPaths(1);
        Scenes.makeToLose(x, 0, 0, 0, 5);
        x.cache(6, true);
        x.cache(5, true);
        due("cached again in time", x.read(0, 0), 0);
        due("held", x.held(0), 5);
    }

    private static void promise08EachLazyOneIsReadForItself() {
        OutputStore x = Scenes.withPaths(2);
        int step = x.begin(0, 0, 0);
        x.cache(5, true);
        x.stage(step, 0, 5, false, true);
        x.stage(step, 1, 5, false, true);
        x.end(step, true);
        due("the first", x.read(0, 0), 0);
        due("the second is lazy still", x.about(0, 1, 2), 0);
        x.cache(5, false);
        due("the second is lost, though the content is stored", x.read(0, 1), -3);
        due("the first stays", x.content(0, 0), 5);
    }

    private static void promise08ThereNeverAsksTheCache() {
        OutputStore x = Scenes.withPaths(1);
        Scenes.make(x, 0, 0, 0, 5);
        due("never cached", x.read(0, 0), 0);
        due("not dirty", x.dirty(0, 0), false);
    }

    private static void promise08WhileAStepIsOpen() {
        OutputStore x = Scenes.withPaths(1);
        Scenes.make(x, 0, 0, 0, 5);
        int step = x.begin(0, 0, 0);
        x.stage(step, 0, 6, false, false);
        due("read", x.read(0, 0), 0);
        due("the output's, not what is staged", x.held(0), 5);
    }

    private static void promise08RestoringLeavesTheRest() {
        OutputStore x = Scenes.withPaths(1);
        int step = x.begin(11, 3, 0);
        x.cache(-5, true);
        x.stage(step, 0, -5, true, true);
        x.end(step, true);
        x.read(3, 0);
        due("its target", x.about(3, 0, 0), 11);
        due("executable", x.about(3, 0, 1), 1);
        due("its step", x.about(3, 0, 3), step);
        due("its content", x.content(3, 0), -5);
    }

    // Promise 9: held.

    private static void promise09NoSuchHold() {
        OutputStore empty = new OutputStore();
        for (int hold : Scenes.outside(0, -1)) {
            due("of none, hold " + hold, empty.held(hold), 0);
        }
        OutputStore x = Scenes.withPaths(2);
        Scenes.makeMany(x, 0, 0, 0, 2, 5);
        x.read(0, 0);
        x.read(0, 1);
        for (int hold : Scenes.outside(0, 1)) {
            due("of two, hold " + hold, x.held(hold), 0);
        }
        due("the first", x.held(0), 5);
        due("the last", x.held(1), 6);
    }

    private static void promise09TheLastOfAHundred() {
        OutputStore x = Scenes.withPaths(1);
        Scenes.holdAll(x);
        for (int hold = 0; hold < 100; hold++) {
            due("held", x.held(hold), 5);
        }
        due("a 101st", x.held(100), 0);
    }

    private static void promise09ZeroIfItWasLetGo() {
        OutputStore x = Scenes.withPaths(1);
        Scenes.holdAll(x);
        x.letGo(0);
        x.letGo(99);
        due("the first", x.held(0), 0);
        due("the second", x.held(1), 5);
        due("the last but one", x.held(98), 5);
        due("the last", x.held(99), 0);
    }

    private static void promise09EveryContent() {
        OutputStore x = Scenes.withPaths(12);
        int step = x.begin(0, 0, 0);
        for (int path = 0; path < 12; path++) {
            x.stage(step, path, Scenes.CONTENTS[path], false, false);
        }
        x.end(step, true);
        for (int path = 0; path < 12; path++) {
            due("read", x.read(0, path), path);
            due("held", x.held(path), Scenes.CONTENTS[path]);
        }
    }

    private static void promise09WhateverBecomesOfTheOutput() {
        OutputStore x = Scenes.withPaths(1);
        Scenes.make(x, 0, 0, 0, 5);
        x.read(0, 0);
        Scenes.make(x, 0, 0, 0, 6);
        due("another content", x.held(0), 5);
        x.read(0, 0);
        x.end(x.begin(0, 0, 0), true);
        due("stale", x.held(1), 6);
        Scenes.make(x, 1, 0, 0, 7);
        x.read(0, 0);
        x.clear(0);
        due("cleared", x.held(2), 7);
        due("the first still", x.held(0), 5);
        due("all three stored", x.stored(), 3);
    }

    // Promise 10: letGo.

    private static void promise10NoSuchHold() {
        OutputStore empty = new OutputStore();
        for (int hold : Scenes.outside(0, -1)) {
            due("of none, hold " + hold, empty.letGo(hold), false);
        }
        OutputStore x = Scenes.withPaths(1);
        Scenes.make(x, 0, 0, 0, 5);
        x.read(0, 0);
        x.read(0, 0);
        for (int hold : Scenes.outside(0, 1)) {
            due("of two, hold " + hold, x.letGo(hold), false);
        }
        due("both are held", x.copies(5), 3);
        due("the first", x.letGo(0), true);
        due("the last", x.letGo(1), true);
    }

    private static void promise10TheLastOfAHundred() {
        OutputStore x = Scenes.withPaths(1);
        Scenes.holdAll(x);
        due("a 101st", x.letGo(100), false);
        due("the 100th", x.letGo(99), true);
        due("the first", x.letGo(0), true);
        due("an output and 98 holds", x.copies(5), 99);
    }

    private static void promise10FalseIfItWasAlready() {
        OutputStore x = Scenes.withPaths(1);
        Scenes.make(x, 0, 0, 0, 5);
        x.read(0, 0);
        x.read(0, 0);
        due("let go", x.letGo(0), true);
        due("already", x.letGo(0), false);
        due("the other one is held", x.held(1), 5);
        due("an output and a hold", x.copies(5), 2);
        due("a new number", x.read(0, 0), 2);
        due("let go for good", x.letGo(0), false);
    }

    private static void promise10OneHoldOfSeveralOfAContent() {
        OutputStore x = Scenes.withPaths(1);
        Scenes.make(x, 0, 0, 0, 5);
        x.read(0, 0);
        x.read(0, 0);
        x.clear(0);
        due("two", x.copies(5), 2);
        x.letGo(1);
        due("one", x.copies(5), 1);
        due("stored", x.stored(), 1);
        x.letGo(0);
        due("none", x.copies(5), 0);
        due("stored no more", x.stored(), 0);
    }

    private static void promise10TheOutputStays() {
        OutputStore x = Scenes.withPaths(1);
        Scenes.makeLazy(x, 0, 0, 0, 5);
        x.read(0, 0);
        x.letGo(0);
        due("content", x.content(0, 0), 5);
        due("there", x.about(0, 0, 2), 1);
        due("stored", x.copies(5), 1);
    }
}
