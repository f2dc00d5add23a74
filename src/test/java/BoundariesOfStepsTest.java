/** Promises 1 to 6: one test for each sentence that names a boundary case. */
public final class BoundariesOfStepsTest {
    private static final int NONE = OutputStore.NONE;

    public static void main(String[] args) throws ReflectiveOperationException {
        Checks.runAll(BoundariesOfStepsTest.class, 1, 6);
        Checks.finish();
    }

    private static void due(String call, long got, long want) {
        Checks.due(call, got, want);
    }

    private static void due(String call, boolean got, boolean want) {
        Checks.due(call, got, want);
    }

    /** Readies a store whose PATH 1 is taken (or isn't); answers the STEP that is to stage. */
    private interface Taken {
        int by(OutputStore x);
    }

    /** What staging answers at each PATH of the tree, each time in a new store. */
    private static void dueAtEachPath(Taken taken, int... answers) {
        for (int path = 0; path < answers.length; path++) {
            OutputStore x = Scenes.withTree();
            int step = taken.by(x);
            due("stage at path " + path, x.stage(step, path, 5, false, false), answers[path]);
        }
    }

    // Promise 1: A new object.

    private static void promise01NoneIsMinusOne() {
        due("NONE", OutputStore.NONE, -1);
    }

    private static void promise01NoPaths() {
        OutputStore x = new OutputStore();
        due("path inside 0", x.path(0), NONE);
        due("begin", x.begin(0, 0, 0), 0);
        due("stage at path 0", x.stage(0, 0, 5, false, false), -1);
        for (int c = 0; c < 4; c++) {
            due("read at path 0", x.read(c, 0), -1);
            due("list at path 0", x.list(c, 0, 0), NONE);
            due("content at path 0", x.content(c, 0), 0);
            due("about path 0", x.about(c, 0, 0), NONE);
        }
        due("the first", x.path(NONE), 0);
    }

    private static void promise01NoOutputs() {
        OutputStore x = Scenes.withPaths(40);
        for (int c = 0; c < 4; c++) {
            for (int path = 0; path < 40; path++) {
                due("content", x.content(c, path), 0);
            }
            due("list", x.list(c, NONE, 0), NONE);
            due("clear", x.clear(c), 0);
        }
        OutputStore y = Scenes.withPaths(40);
        for (int c = 0; c < 4; c++) {
            for (int path = 0; path < 40; path++) {
                due("read", y.read(c, path), -2);
            }
        }
    }

    private static void promise01AnEmptyCache() {
        OutputStore x = Scenes.withPaths(1);
        x.begin(0, 0, 0);
        for (long content : Scenes.CONTENTS) {
            due("stage lazily " + content, x.stage(0, 0, content, false, true), -3);
        }
        Scenes.cacheMany(x, 1, 60);
        due("and a 61st", x.cache(61, true), false);
    }

    private static void promise01NoSteps() {
        OutputStore x = Scenes.withPaths(1);
        due("end well", x.end(0, true), NONE);
        due("end badly", x.end(0, false), NONE);
        due("stage", x.stage(0, 0, 5, false, false), -1);
        for (int run = 0; run < 8; run++) {
            due("abandon", x.abandon(run), 0);
        }
        due("the first", x.begin(0, 0, 0), 0);
    }

    private static void promise01NoHolds() {
        OutputStore x = Scenes.withPaths(1);
        due("held", x.held(0), 0);
        due("letGo", x.letGo(0), false);
        Scenes.make(x, 0, 0, 0, 5);
        due("the first", x.read(0, 0), 0);
    }

    private static void promise01NothingDirty() {
        OutputStore x = new OutputStore();
        for (int target = 0; target < 12; target++) {
            for (int c = 0; c < 4; c++) {
                due("dirty", x.dirty(target, c), false);
            }
        }
    }

    private static void promise01NothingStored() {
        OutputStore x = new OutputStore();
        due("stored", x.stored(), 0);
        due("copies of 0", x.copies(0), 0);
        for (long content : Scenes.CONTENTS) {
            due("copies", x.copies(content), 0);
        }
    }

    private static void promise01ObjectsShareNothing() {
        OutputStore full = Scenes.withPaths(40);
        Scenes.cacheMany(full, 1, 60);
        Scenes.holdAll(full);
        Scenes.soil(Scenes.withPaths(1), 0, 0, 0);
        OutputStore x = new OutputStore();
        due("path", x.path(NONE), 0);
        due("begin", x.begin(0, 0, 0), 0);
        due("cache", x.cache(61, true), true);
        due("held", x.held(0), 0);
        due("content", x.content(0, 0), 0);
        due("dirty", x.dirty(0, 0), false);
        due("stored", x.stored(), 0);
    }

    // Promise 2: path.

    private static void promise02NumberedFromZeroAtTheTop() {
        OutputStore x = new OutputStore();
        due("the first", x.path(NONE), 0);
        due("the second", x.path(NONE), 1);
        Scenes.make(x, 0, 0, 1, 5);
        due("neither is within the other one", x.list(0, 0, 0), NONE);
    }

    private static void promise02NoneIfThereIsNoSuchPath() {
        OutputStore empty = new OutputStore();
        for (int inside : Scenes.outside(NONE, NONE)) {
            due("of none, inside " + inside, empty.path(inside), NONE);
        }
        OutputStore x = Scenes.withPaths(3);
        for (int inside : Scenes.outside(NONE, 2)) {
            due("of three, inside " + inside, x.path(inside), NONE);
        }
        due("a refused one takes no number", x.path(2), 3);
    }

    private static void promise02InsideTheFirstAndTheLast() {
        OutputStore x = Scenes.withPaths(39);
        due("inside the last", x.path(38), 39);
        OutputStore y = Scenes.withPaths(39);
        due("inside the first", y.path(0), 39);
        Scenes.make(x, 0, 0, 39, 5);
        Scenes.make(y, 0, 0, 39, 5);
        due("it lies in the last", x.list(0, 38, 0), 39);
        due("not in the first", x.list(0, 0, 0), NONE);
        due("it lies in the first", y.list(0, 0, 0), 39);
        due("not in the last", y.list(0, 38, 0), NONE);
    }

    private static void promise02NoneIfThereAreForty() {
        OutputStore x = Scenes.withPaths(39);
        due("the 40th", x.path(NONE), 39);
        due("a 41st at the top", x.path(NONE), NONE);
        for (int inside = 0; inside < 40; inside++) {
            due("a 41st inside " + inside, x.path(inside), NONE);
        }
        x.begin(0, 0, 0);
        due("the 40th is there", x.stage(0, 39, 5, false, false), 1);
        due("no 41st is there", x.stage(0, 40, 5, false, false), -1);
    }

    private static void promise02FortyStayForty() {
        OutputStore x = Scenes.withPaths(40);
        Scenes.make(x, 0, 0, 39, 5);
        due("an output has gone", x.clear(0), 1);
        due("a 41st", x.path(NONE), NONE);
        Scenes.soil(x, 0, 0, 0);
        due("a 41st", x.path(0), NONE);
    }

    private static void promise02WithinThroughFortyLevels() {
        OutputStore x = Scenes.withChain();
        x.begin(0, 0, 0);
        due("the deepest", x.stage(0, 39, 5, false, false), 1);
        for (int path = 0; path < 39; path++) {
            due("the deepest is within " + path, x.stage(0, path, 5, false, false), -2);
        }
        x.end(0, true);
        for (int path = 0; path < 40; path++) {
            due("the deepest is within " + path, x.list(0, path, 0), 39);
        }
    }

    // Promise 3: begin.

    private static void promise03TargetsZeroToEleven() {
        OutputStore x = new OutputStore();
        for (int target : Scenes.outside(0, 11)) {
            due("target " + target, x.begin(target, 0, 0), -1);
        }
        due("target 0", x.begin(0, 0, 0), 0);
        due("target 11", x.begin(11, 0, 0), 1);
    }

    private static void promise03ConfigurationsZeroToThree() {
        OutputStore x = new OutputStore();
        for (int configuration : Scenes.outside(0, 3)) {
            due("configuration " + configuration, x.begin(0, configuration, 0), -1);
        }
        due("configuration 0", x.begin(0, 0, 0), 0);
        due("configuration 3", x.begin(0, 3, 0), 1);
    }

    private static void promise03RunsZeroToSeven() {
        OutputStore x = new OutputStore();
        for (int run : Scenes.outside(0, 7)) {
            due("run " + run, x.begin(0, 0, run), -1);
        }
        due("run 0", x.begin(0, 0, 0), 0);
        due("run 7", x.begin(1, 0, 7), 1);
    }

    private static void promise03AllWrongAtOnce() {
        OutputStore x = new OutputStore();
        due("the least", x.begin(Integer.MIN_VALUE, Integer.MIN_VALUE, Integer.MIN_VALUE), -1);
        due("the greatest", x.begin(Integer.MAX_VALUE, Integer.MAX_VALUE, Integer.MAX_VALUE), -1);
        due("the first", x.begin(0, 0, 0), 0);
    }

    private static void promise03MinusOneIfThereAreEighty() {
        OutputStore x = new OutputStore();
        for (int step = 0; step < 80; step++) {
            due("begin", x.begin(step % 12, step % 4, step % 8), step);
            due("end", x.end(step, step % 2 == 0), 0);
        }
        due("an 81st", x.begin(0, 0, 0), -1);
        due("an 81st of another one", x.begin(11, 3, 7), -1);
        due("there is no step 80", x.end(80, true), NONE);
    }

    private static void promise03EndedOnesCountAmongTheEighty() {
        OutputStore x = new OutputStore();
        for (int step = 0; step < 77; step++) {
            due("begin", x.begin(0, 0, 0), step);
            due("end", x.end(step, step % 2 == 0), 0);
        }
        due("the 78th", x.begin(0, 0, 0), 77);
        due("the 79th", x.begin(1, 0, 1), 78);
        due("the 80th", x.begin(2, 0, 2), 79);
        due("full", x.begin(3, 0, 0), -1);
        due("one ends well", x.end(77, true), 0);
        due("full still", x.begin(0, 0, 0), -1);
        due("one ends badly", x.end(78, false), 0);
        due("full still", x.begin(0, 0, 0), -1);
        due("one is abandoned", x.abandon(2), 1);
        due("full still", x.begin(0, 0, 0), -1);
    }

    private static void promise03MinusTwoIfOneIsOpen() {
        OutputStore x = new OutputStore();
        due("the first", x.begin(11, 3, 7), 0);
        for (int run = 0; run < 8; run++) {
            due("in run " + run, x.begin(11, 3, run), -2);
        }
        due("another target", x.begin(10, 3, 7), 1);
        due("another configuration", x.begin(11, 2, 7), 2);
        due("the lowest of both", x.begin(0, 0, 7), 3);
        due("it is open, too", x.begin(0, 0, 0), -2);
    }

    private static void promise03OpenNoLonger() {
        OutputStore x = new OutputStore();
        x.begin(5, 1, 4);
        x.end(0, true);
        due("it ended well", x.begin(5, 1, 4), 1);
        x.end(1, false);
        due("it ended badly", x.begin(5, 1, 4), 2);
        x.abandon(4);
        due("it was abandoned", x.begin(5, 1, 4), 3);
        due("and now there is one", x.begin(5, 1, 4), -2);
    }

    private static void promise03MinusOneAheadOfMinusTwo() {
        OutputStore x = new OutputStore();
        x.begin(0, 0, 0);
        due("one is open, and the run is wrong", x.begin(0, 0, 8), -1);
        due("one is open, and the run is wrong", x.begin(0, 0, -1), -1);
        for (int step = 1; step < 80; step++) {
            due("begin", x.begin(1, 0, 0), step);
            due("end", x.end(step, true), 0);
        }
        due("one is open, and there are 80", x.begin(0, 0, 0), -1);
    }

    private static void promise03ARefusedOneTakesNoNumber() {
        OutputStore x = new OutputStore();
        x.begin(0, 0, 0);
        due("refused", x.begin(0, 0, 0), -2);
        due("refused", x.begin(12, 0, 0), -1);
        due("the next number", x.begin(1, 0, 0), 1);
    }

    private static void promise03FortyEightOpenAtOnce() {
        OutputStore x = new OutputStore();
        for (int step = 0; step < 48; step++) {
            due("begin", x.begin(step % 12, step / 12, step % 8), step);
        }
        for (int step = 0; step < 48; step++) {
            due("begin again", x.begin(step % 12, step / 12, 0), -2);
        }
        for (int step = 0; step < 48; step++) {
            due("end", x.end(step, true), 0);
        }
    }

    // Promise 4: stage.

    private static void promise04NoSuchStep() {
        OutputStore empty = Scenes.withPaths(1);
        for (int step : Scenes.outside(0, -1)) {
            due("of none, step " + step, empty.stage(step, 0, 5, false, false), -1);
        }
        OutputStore x = Scenes.withPaths(1);
        x.begin(0, 0, 0);
        x.begin(1, 1, 0);
        for (int step : Scenes.outside(0, 1)) {
            due("of two, step " + step, x.stage(step, 0, 5, false, false), -1);
        }
        due("the first", x.stage(0, 0, 5, false, false), 1);
        due("the last", x.stage(1, 0, 5, false, false), 1);
    }

    private static void promise04StepOpenNoLonger() {
        OutputStore x = Scenes.withPaths(1);
        x.begin(0, 0, 0);
        x.begin(1, 0, 0);
        x.begin(2, 0, 3);
        x.end(0, true);
        x.end(1, false);
        x.abandon(3);
        for (int step = 0; step < 3; step++) {
            due("stage", x.stage(step, 0, 5, false, false), -1);
        }
        due("begun again", x.begin(0, 0, 0), 3);
        due("the former one stays ended", x.stage(0, 0, 5, false, false), -1);
        due("nothing is staged", x.stored(), 0);
    }

    private static void promise04TheLastOfEightySteps() {
        OutputStore x = Scenes.withPaths(1);
        for (int step = 0; step < 79; step++) {
            x.begin(0, 0, 0);
            x.end(step, true);
        }
        due("the 80th", x.begin(0, 0, 0), 79);
        due("stage", x.stage(79, 0, 5, false, false), 1);
        due("stage with an 81st", x.stage(80, 0, 5, false, false), -1);
        due("end", x.end(79, true), 0);
        due("made by the 80th", x.about(0, 0, 3), 79);
    }

    private static void promise04NoSuchPath() {
        OutputStore empty = new OutputStore();
        empty.begin(0, 0, 0);
        for (int path : Scenes.outside(0, -1)) {
            due("of none, path " + path, empty.stage(0, path, 5, false, false), -1);
        }
        OutputStore x = Scenes.withPaths(2);
        x.begin(0, 0, 0);
        for (int path : Scenes.outside(0, 1)) {
            due("of two, path " + path, x.stage(0, path, 5, false, false), -1);
        }
        due("the first", x.stage(0, 0, 5, false, false), 1);
        due("the last", x.stage(0, 1, 5, false, false), 1);
        due("two", x.copies(5), 2);
    }

    private static void promise04TheLastOfFortyPaths() {
        OutputStore x = Scenes.withPaths(40);
        x.begin(0, 2, 0);
        due("path 39", x.stage(0, 39, 5, false, false), 1);
        due("path 40", x.stage(0, 40, 5, false, false), -1);
        x.end(0, true);
        due("path 39", x.content(2, 39), 5);
        due("the next configuration's first", x.content(3, 0), 0);
    }

    private static void promise04ContentZero() {
        OutputStore x = Scenes.withPaths(1);
        x.begin(0, 0, 0);
        due("content 0", x.stage(0, 0, 0, false, false), -1);
        due("lazily", x.stage(0, 0, 0, true, true), -1);
        due("nothing is stored", x.stored(), 0);
        due("nothing is staged", x.end(0, true), 0);
        due("nothing came", x.list(0, NONE, 0), NONE);
    }

    private static void promise04EveryOtherContent() {
        OutputStore x = Scenes.withPaths(12);
        x.begin(0, 0, 0);
        for (int path = 0; path < 12; path++) {
            due("stage", x.stage(0, path, Scenes.CONTENTS[path], false, false), 1);
        }
        x.end(0, true);
        for (int path = 0; path < 12; path++) {
            due("content", x.content(0, path), Scenes.CONTENTS[path]);
        }
    }

    private static OutputStore withTwelveStaged() {
        OutputStore x = Scenes.withPaths(14);
        x.begin(0, 0, 0);
        for (int path = 0; path < 12; path++) {
            due("staged", x.stage(0, path, 100 + path, false, false), 1);
        }
        return x;
    }

    private static void promise04MinusOneIfItHasTwelve() {
        OutputStore x = withTwelveStaged();
        due("a 13th", x.stage(0, 12, 5, false, false), -1);
        due("a 13th", x.stage(0, 13, 5, false, false), -1);
        due("not stored", x.copies(5), 0);
        due("end", x.end(0, true), 0);
        due("twelve came", x.list(0, NONE, 11), 11);
        due("and no more", x.list(0, NONE, 12), NONE);
    }

    private static void promise04OneOfTheTwelveAtThatPath() {
        OutputStore x = withTwelveStaged();
        due("in place of the first", x.stage(0, 0, 5, false, false), 1);
        due("in place of the last", x.stage(0, 11, 6, false, false), 1);
        due("it has 12 still", x.stage(0, 12, 7, false, false), -1);
        x.end(0, true);
        due("the first", x.content(0, 0), 5);
        due("the last", x.content(0, 11), 6);
    }

    private static void promise04LazyOnesCountAmongTheTwelve() {
        OutputStore x = Scenes.withPaths(13);
        x.begin(0, 0, 0);
        x.cache(9, true);
        for (int path = 0; path < 12; path++) {
            due("staged lazily", x.stage(0, path, 9, false, true), 1);
        }
        due("a 13th", x.stage(0, 12, 9, false, true), -1);
        due("a 13th, not lazily", x.stage(0, 12, 9, false, false), -1);
    }

    private static void promise04TwelveOfAStepEach() {
        OutputStore x = withTwelveStaged();
        due("another target", x.begin(1, 0, 0), 1);
        due("it may stage", x.stage(1, 12, 5, false, false), 1);
        due("another configuration", x.begin(0, 1, 0), 2);
        due("it may stage", x.stage(2, 12, 5, false, false), 1);
        due("the first may not", x.stage(0, 13, 5, false, false), -1);
    }

    private static void promise04TwelveAgainAfterAnEnd() {
        for (boolean well : new boolean[] {true, false}) {
            OutputStore x = withTwelveStaged();
            x.end(0, well);
            due("the next step", x.begin(0, 0, 0), 1);
            for (int path = 2; path < 14; path++) {
                due("staged", x.stage(1, path, 5, false, false), 1);
            }
            due("a 13th", x.stage(1, 0, 5, false, false), -1);
            due("stale", x.end(1, true), well ? 2 : 0);
        }
    }

    private static void promise04TwelveAheadOfRefusedAndUncached() {
        OutputStore x = withTwelveStaged();
        int inner = x.path(0);
        due("a 13th that meets one", x.stage(0, inner, 5, false, false), -1);
        due("a 13th that isn't cached", x.stage(0, 12, 5, false, true), -1);
        due("one of the 12 that isn't cached", x.stage(0, 11, 5, false, true), -3);
    }

    private static void promise04MinusOneAheadOfMinusTwo() {
        OutputStore x = Scenes.withTree();
        Scenes.make(x, 1, 0, 1, 7);
        int step = x.begin(0, 0, 0);
        due("refused", x.stage(step, 1, 5, false, false), -2);
        due("content 0", x.stage(step, 1, 0, false, false), -1);
        due("another step", x.stage(step + 1, 1, 5, false, false), -1);
    }

    private static void promise04MinusTwoAheadOfMinusThree() {
        OutputStore x = Scenes.withTree();
        Scenes.make(x, 1, 0, 1, 7);
        int step = x.begin(0, 0, 0);
        due("refused and not cached", x.stage(step, 0, 5, false, true), -2);
        due("not cached", x.stage(step, 4, 5, false, true), -3);
    }

    private static void promise04RefusedIfItMeetsAnOutputOfAnotherTarget() {
        dueAtEachPath(x -> {
            Scenes.make(x, 1, 0, 1, 7);
            return x.begin(0, 0, 0);
        }, -2, -2, 1, -2, 1);
        dueAtEachPath(x -> {
            Scenes.makeLazy(x, 1, 0, 1, 7);
            return x.begin(0, 0, 0);
        }, -2, -2, 1, -2, 1);
    }

    private static void promise04RefusedIfAnotherOpenStepStagedWhatItMeets() {
        dueAtEachPath(x -> {
            int other = x.begin(1, 0, 0);
            x.stage(other, 1, 7, false, false);
            return x.begin(0, 0, 0);
        }, -2, -2, 1, -2, 1);
        dueAtEachPath(x -> {
            int other = x.begin(1, 0, 0);
            x.cache(7, true);
            x.stage(other, 1, 7, false, true);
            return x.begin(0, 0, 0);
        }, -2, -2, 1, -2, 1);
    }

    private static void promise04AnotherStepsNumberMayBeHigher() {
        dueAtEachPath(x -> {
            int step = x.begin(0, 0, 0);
            x.stage(x.begin(1, 0, 0), 1, 7, false, false);
            return step;
        }, -2, -2, 1, -2, 1);
    }

    private static void promise04RefusedIfItMeetsAnotherOneOfItsOwn() {
        dueAtEachPath(x -> {
            int step = x.begin(0, 0, 0);
            x.stage(step, 1, 7, false, false);
            return step;
        }, -2, 1, 1, -2, 1);
    }

    private static void promise04NotRefusedByItsTargetsOutputs() {
        dueAtEachPath(x -> {
            Scenes.make(x, 0, 0, 1, 7);
            return x.begin(0, 0, 0);
        }, 1, 1, 1, 1, 1);
    }

    private static void promise04NotRefusedByAnotherConfiguration() {
        dueAtEachPath(x -> {
            Scenes.make(x, 1, 1, 1, 7);
            x.stage(x.begin(1, 2, 0), 1, 7, false, false);
            x.stage(x.begin(0, 3, 0), 1, 7, false, false);
            return x.begin(0, 0, 0);
        }, 1, 1, 1, 1, 1);
    }

    private static void promise04NotRefusedByAnOutputThatWent() {
        dueAtEachPath(x -> {
            Scenes.make(x, 1, 0, 1, 7);
            x.end(x.begin(1, 0, 0), true);
            return x.begin(0, 0, 0);
        }, 1, 1, 1, 1, 1);
        dueAtEachPath(x -> {
            Scenes.make(x, 1, 0, 1, 7);
            x.clear(0);
            return x.begin(0, 0, 0);
        }, 1, 1, 1, 1, 1);
        dueAtEachPath(x -> {
            Scenes.soil(x, 1, 0, 1);
            return x.begin(0, 0, 0);
        }, 1, 1, 1, 1, 1);
    }

    private static void promise04NotRefusedByAHold() {
        dueAtEachPath(x -> {
            Scenes.make(x, 1, 0, 1, 7);
            due("held", x.read(0, 1), 0);
            x.clear(0);
            return x.begin(0, 0, 0);
        }, 1, 1, 1, 1, 1);
    }

    private static void promise04NotRefusedByAStepThatEndedBadly() {
        dueAtEachPath(x -> {
            int other = x.begin(1, 0, 0);
            x.stage(other, 1, 7, false, false);
            x.end(other, false);
            return x.begin(0, 0, 0);
        }, 1, 1, 1, 1, 1);
        dueAtEachPath(x -> {
            x.stage(x.begin(1, 0, 5), 1, 7, false, false);
            x.abandon(5);
            return x.begin(0, 0, 0);
        }, 1, 1, 1, 1, 1);
    }

    private static void promise04NotRefusedByWhatWasRefused() {
        dueAtEachPath(x -> {
            int other = x.begin(1, 0, 0);
            due("not cached", x.stage(other, 1, 7, false, true), -3);
            due("content 0", x.stage(other, 1, 0, false, false), -1);
            return x.begin(0, 0, 0);
        }, 1, 1, 1, 1, 1);
    }

    private static void promise04FirstAndLastPathMeet() {
        OutputStore x = Scenes.withChain();
        Scenes.make(x, 1, 0, 39, 7);
        x.begin(0, 0, 0);
        due("the first", x.stage(1, 0, 5, false, false), -2);
        OutputStore y = Scenes.withChain();
        Scenes.make(y, 1, 0, 0, 7);
        y.begin(0, 0, 0);
        due("the last", y.stage(1, 39, 5, false, false), -2);
    }

    private static void promise04MinusThreeIfTheCacheHasNot() {
        OutputStore x = Scenes.withPaths(2);
        x.begin(0, 0, 0);
        due("lazily, none cached", x.stage(0, 0, 5, false, true), -3);
        x.cache(6, true);
        due("lazily, another one cached", x.stage(0, 0, 5, false, true), -3);
        due("lazily, cached", x.stage(0, 0, 6, false, true), 1);
        due("not lazily, not cached", x.stage(0, 1, 5, false, false), 1);
        x.cache(6, false);
        due("cached no more", x.stage(0, 0, 6, false, true), -3);
    }

    private static void promise04UncachedLeavesWhatWasStaged() {
        OutputStore x = Scenes.withPaths(1);
        x.begin(0, 0, 0);
        x.stage(0, 0, 5, true, false);
        due("not cached", x.stage(0, 0, 6, false, true), -3);
        due("content 0", x.stage(0, 0, 0, false, false), -1);
        due("stored still", x.copies(5), 1);
        x.end(0, true);
        due("content", x.content(0, 0), 5);
        due("executable", x.about(0, 0, 1), 1);
        due("there", x.about(0, 0, 2), 1);
    }

    private static void promise04InPlaceOfWhatIsThere() {
        OutputStore x = Scenes.withPaths(1);
        x.begin(0, 0, 0);
        x.cache(6, true);
        x.stage(0, 0, 5, true, false);
        due("lazily", x.stage(0, 0, 6, false, true), 1);
        due("the former one is stored no more", x.stored(), 0);
        due("not lazily", x.stage(0, 0, 6, true, false), 1);
        due("stored", x.copies(6), 1);
        due("the same once more", x.stage(0, 0, 6, true, false), 1);
        due("stored once", x.copies(6), 1);
        due("none stale", x.end(0, true), 0);
        due("one output", x.list(0, NONE, 1), NONE);
        due("executable", x.about(0, 0, 1), 1);
        due("there", x.about(0, 0, 2), 1);
    }

    private static void promise04CacheIsAskedAtStagingAlone() {
        OutputStore x = Scenes.withPaths(1);
        x.begin(0, 0, 0);
        x.cache(6, true);
        x.stage(0, 0, 6, false, true);
        x.cache(6, false);
        due("end", x.end(0, true), 0);
        due("it came", x.content(0, 0), 6);
        due("lazy", x.about(0, 0, 2), 0);
    }

    // Promise 5: end.

    private static void promise05NoSuchStep() {
        OutputStore x = new OutputStore();
        for (int step : Scenes.outside(0, -1)) {
            due("of none, step " + step, x.end(step, true), NONE);
            due("of none, step " + step, x.end(step, false), NONE);
        }
        x.begin(0, 0, 0);
        x.begin(1, 0, 0);
        for (int step : Scenes.outside(0, 1)) {
            due("of two, step " + step, x.end(step, true), NONE);
            due("of two, step " + step, x.end(step, false), NONE);
        }
        due("the first", x.end(0, true), 0);
        due("the last", x.end(1, false), 0);
    }

    private static void promise05OpenNoLonger() {
        OutputStore x = new OutputStore();
        x.begin(0, 0, 0);
        x.begin(1, 0, 0);
        x.begin(2, 0, 6);
        x.end(0, true);
        x.end(1, false);
        x.abandon(6);
        for (int step = 0; step < 3; step++) {
            due("well", x.end(step, true), NONE);
            due("badly", x.end(step, false), NONE);
        }
    }

    private static void promise05AFormerStepStaysEnded() {
        OutputStore x = Scenes.withPaths(1);
        x.begin(0, 0, 0);
        x.end(0, false);
        x.begin(0, 0, 0);
        x.stage(1, 0, 5, false, false);
        due("the former one", x.end(0, true), NONE);
        due("the later one is open", x.end(1, true), 0);
        due("it came", x.content(0, 0), 5);
    }

    private static void promise05TheLastOfEighty() {
        OutputStore x = Scenes.withPaths(1);
        for (int step = 0; step < 80; step++) {
            x.begin(0, 0, 0);
            due("end", x.end(step, true), 0);
        }
        due("an 81st", x.end(80, true), NONE);
        due("the 80th again", x.end(79, true), NONE);
    }

    private static void promise05NoneStaleWithoutOutputs() {
        OutputStore x = Scenes.withPaths(2);
        x.begin(0, 0, 0);
        due("nothing staged", x.end(0, true), 0);
        x.begin(0, 0, 0);
        x.stage(1, 0, 5, false, false);
        x.stage(1, 1, 5, false, false);
        due("two staged", x.end(1, true), 0);
    }

    private static void promise05AllStaleIfNothingIsStaged() {
        OutputStore x = Scenes.withPaths(12);
        Scenes.makeMany(x, 0, 0, 0, 12, 100);
        x.begin(0, 0, 0);
        due("twelve stale", x.end(1, true), 12);
        due("none left", x.list(0, NONE, 0), NONE);
        due("nothing stored", x.stored(), 0);
    }

    private static void promise05NoneStaleIfAllAreStaged() {
        OutputStore x = Scenes.withPaths(12);
        Scenes.makeMany(x, 0, 0, 0, 12, 100);
        x.begin(0, 0, 0);
        for (int path = 0; path < 12; path++) {
            x.stage(1, path, 200 + path, true, false);
        }
        due("none stale", x.end(1, true), 0);
        due("the first", x.content(0, 0), 200);
        due("the last", x.content(0, 11), 211);
        due("its step", x.about(0, 11, 3), 1);
        due("the former ones are stored no more", x.stored(), 12);
    }

    private static void promise05TwelveStaleTwelveCome() {
        OutputStore x = Scenes.withPaths(40);
        Scenes.makeMany(x, 0, 0, 0, 12, 100);
        x.begin(0, 0, 0);
        for (int path = 28; path < 40; path++) {
            x.stage(1, path, 5, false, false);
        }
        due("twelve stale", x.end(1, true), 12);
        due("the first", x.list(0, NONE, 0), 28);
        due("the last", x.list(0, NONE, 11), 39);
        due("no more", x.list(0, NONE, 12), NONE);
    }

    private static void promise05StaleOfItsTargetAndConfigurationAlone() {
        OutputStore x = Scenes.withPaths(4);
        Scenes.make(x, 5, 1, 0, 5);
        Scenes.make(x, 4, 1, 1, 5);
        Scenes.make(x, 6, 1, 2, 5);
        Scenes.make(x, 5, 0, 0, 5);
        Scenes.make(x, 5, 2, 0, 5);
        due("one stale", x.end(x.begin(5, 1, 0), true), 1);
        due("it went", x.content(1, 0), 0);
        due("the others stay", x.copies(5), 4);
    }

    private static void promise05LazyOnesAreStaleToo() {
        OutputStore x = Scenes.withPaths(1);
        Scenes.makeLazy(x, 0, 0, 0, 5);
        due("one stale", x.end(x.begin(0, 0, 0), true), 1);
    }

    private static void promise05LostAndClearedOnesAreNotStale() {
        OutputStore x = Scenes.withPaths(1);
        Scenes.soil(x, 0, 0, 0);
        due("it was lost", x.end(x.begin(0, 0, 0), true), 0);
        Scenes.make(x, 0, 0, 0, 5);
        x.clear(0);
        due("it was cleared", x.end(x.begin(0, 0, 0), true), 0);
    }

    private static void promise05LostWhileTheStepWasOpen() {
        OutputStore x = Scenes.withPaths(2);
        Scenes.makeToLose(x, 0, 0, 0, 5);
        int step = x.begin(0, 0, 0);
        due("lost", x.read(0, 0), -3);
        due("dirty", x.dirty(0, 0), true);
        due("not stale", x.end(step, true), 0);
        due("dirty no longer", x.dirty(0, 0), false);
    }

    private static void promise05AFileBecomesAFolderAndBack() {
        OutputStore x = Scenes.withTree();
        Scenes.make(x, 0, 0, 1, 5);
        x.begin(0, 0, 0);
        due("within", x.stage(1, 3, 6, false, false), 1);
        due("the file is stale", x.end(1, true), 1);
        due("the file", x.content(0, 1), 0);
        due("in the folder", x.content(0, 3), 6);
        x.begin(0, 0, 0);
        due("around", x.stage(2, 1, 7, false, false), 1);
        due("what was in the folder is stale", x.end(2, true), 1);
        due("the file", x.content(0, 1), 7);
        due("in the folder", x.content(0, 3), 0);
    }

    private static void promise05BadlyNothingChanges() {
        OutputStore x = Scenes.withPaths(3);
        Scenes.make(x, 0, 0, 0, 5);
        Scenes.make(x, 0, 0, 1, 6);
        x.begin(0, 0, 0);
        x.stage(2, 1, 7, true, false);
        x.stage(2, 2, 8, true, false);
        due("badly", x.end(2, false), 0);
        due("content", x.content(0, 1), 6);
        due("its step", x.about(0, 1, 3), 1);
        due("not executable", x.about(0, 1, 1), 0);
        due("nothing came", x.list(0, NONE, 1), NONE);
        due("what was staged is stored no more", x.stored(), 1);
        x.begin(0, 0, 0);
        due("nor staged any more", x.end(3, true), 1);
    }

    private static void promise05BadlyZeroThoughThereAreOutputs() {
        OutputStore x = Scenes.withPaths(12);
        Scenes.makeMany(x, 0, 0, 0, 12, 100);
        due("badly", x.end(x.begin(0, 0, 0), false), 0);
        due("all stay", x.list(0, NONE, 11), 11);
    }

    private static void promise05WellEndsDirty() {
        OutputStore x = Scenes.withPaths(1);
        Scenes.soil(x, 11, 3, 0);
        x.end(x.begin(11, 3, 0), true);
        due("dirty no longer", x.dirty(11, 3), false);
    }

    private static void promise05BadlyLeavesDirty() {
        OutputStore x = Scenes.withPaths(1);
        Scenes.soil(x, 11, 3, 0);
        x.end(x.begin(11, 3, 0), false);
        due("dirty still", x.dirty(11, 3), true);
        x.end(x.begin(10, 3, 0), false);
        due("nor is another one dirty", x.dirty(10, 3), false);
    }

    private static void promise05HeldWhateverBecomesOfTheOutput() {
        OutputStore x = Scenes.withPaths(1);
        Scenes.make(x, 0, 0, 0, 5);
        x.read(0, 0);
        due("stale", x.end(x.begin(0, 0, 0), true), 1);
        due("held", x.held(0), 5);
        due("stored", x.copies(5), 1);
    }

    // Promise 6: abandon.

    private static void promise06RunsZeroToSeven() {
        OutputStore x = new OutputStore();
        x.begin(0, 0, 0);
        x.begin(1, 0, 7);
        for (int run : Scenes.outside(0, 7)) {
            due("run " + run, x.abandon(run), NONE);
        }
        due("run 0", x.abandon(0), 1);
        due("run 7", x.abandon(7), 1);
    }

    private static void promise06ZeroIfNoneIsOpen() {
        OutputStore x = new OutputStore();
        for (int run = 0; run < 8; run++) {
            due("no steps", x.abandon(run), 0);
        }
        x.end(x.begin(0, 0, 3), true);
        x.end(x.begin(0, 0, 3), false);
        x.begin(0, 0, 4);
        due("two ended ones", x.abandon(3), 0);
        due("one open one of another run", x.abandon(4), 1);
        due("again", x.abandon(4), 0);
    }

    private static void promise06AllOfTheRunAndNoOthers() {
        OutputStore x = new OutputStore();
        for (int step = 0; step < 48; step++) {
            x.begin(step % 12, step / 12, step % 3 == 0 ? 7 : 6);
        }
        due("sixteen", x.abandon(7), 16);
        for (int step = 0; step < 48; step++) {
            due("end", x.end(step, true), step % 3 == 0 ? NONE : 0);
        }
    }

    private static void promise06FortyEightAtOnce() {
        OutputStore x = new OutputStore();
        for (int step = 0; step < 48; step++) {
            x.begin(step % 12, step / 12, 2);
        }
        due("all", x.abandon(2), 48);
        due("again", x.abandon(2), 0);
        due("may begin", x.begin(11, 3, 2), 48);
    }

    private static void promise06TheLastOfEighty() {
        OutputStore x = new OutputStore();
        for (int step = 0; step < 80; step++) {
            x.begin(0, 0, 2);
            if (step < 79) {
                x.end(step, true);
            }
        }
        due("the 80th", x.abandon(2), 1);
        due("it ended", x.end(79, true), NONE);
    }

    private static void promise06TheyEndBadly() {
        OutputStore x = Scenes.withPaths(3);
        Scenes.soil(x, 0, 0, 0);
        Scenes.make(x, 1, 0, 0, 5);
        int first = x.begin(0, 0, 1);
        int second = x.begin(1, 0, 1);
        x.stage(first, 1, 6, false, false);
        x.stage(second, 2, 7, false, false);
        due("two", x.abandon(1), 2);
        due("nothing came", x.list(0, NONE, 1), NONE);
        due("nothing went", x.content(0, 0), 5);
        due("dirty still", x.dirty(0, 0), true);
        due("what was staged is stored no more", x.stored(), 1);
        due("may begin", x.begin(0, 0, 1), 4);
        due("nothing is staged", x.stage(4, 2, 8, false, false), 1);
    }
}
