/** For each promise: ordinary inputs, the edges that the document names, and wrong inputs. */
public final class PromisesTest {
    private static final int NONE = OutputStore.NONE;
    private static final int[] WILD = {Integer.MIN_VALUE, -1000, -2, 1000, Integer.MAX_VALUE};

    public static void main(String[] args) {
        aNewObject();
        path();
        pathsThatMeet();
        begin();
        beginWhenFull();
        stage();
        stageInPlace();
        stageOrderOfAnswers();
        stageTwelve();
        stageRefused();
        end();
        endBadly();
        endReplacesAll();
        abandon();
        cache();
        read();
        readLazy();
        readWhenFull();
        held();
        letGo();
        content();
        about();
        list();
        dirty();
        clear();
        copies();
        stored();
        wildArguments();
        Checks.finish();
    }

    private static void due(String call, long got, long want) {
        Checks.due(call, got, want);
    }

    private static void due(String call, boolean got, boolean want) {
        Checks.due(call, got, want);
    }

    private static void aNewObject() {
        OutputStore x = new OutputStore();
        due("new: no path to read", x.read(0, 0), -1);
        due("new: content", x.content(0, 0), 0);
        due("new: stored", x.stored(), 0);
        due("new: held", x.held(0), 0);
        due("new: first path", x.path(NONE), 0);
        due("new: first step", x.begin(0, 0, 0), 0);
        due("new: empty cache", x.stage(0, 0, 1, false, true), -3);
        for (int c = 0; c < 4; c++) {
            due("new: no outputs", x.list(c, NONE, 0), NONE);
            for (int t = 0; t < 12; t++) {
                due("new: not dirty", x.dirty(t, c), false);
            }
        }
        OutputStore y = new OutputStore();
        due("objects share nothing", y.begin(0, 0, 0), 0);
        due("objects share nothing", y.path(NONE), 0);
    }

    private static void path() {
        OutputStore x = new OutputStore();
        due("path inside none such", x.path(0), NONE);
        due("path inside -2", x.path(-2), NONE);
        due("path at top", x.path(NONE), 0);
        due("path inside itself to be", x.path(1), NONE);
        due("path inside 0", x.path(0), 1);
        for (int i = 2; i < 40; i++) {
            due("a deep chain", x.path(i - 1), i);
        }
        due("a 41st", x.path(NONE), NONE);
        due("a 41st inside", x.path(3), NONE);
        int step = x.begin(0, 0, 0);
        due("the deepest", x.stage(step, 39, 5, false, false), 1);
        due("the outermost meets the deepest", x.stage(step, 0, 5, false, false), -2);
        due("there is no path 40", x.stage(step, 40, 5, false, false), -1);
        x.end(step, true);
        due("the deepest is within the outermost", x.list(0, 0, 0), 39);
        due("and at itself", x.list(0, 39, 0), 39);
    }

    private static void pathsThatMeet() {
        OutputStore x = Scenes.withTree();
        boolean[][] meet = new boolean[5][5];
        int[][] pairs = {{0, 1}, {0, 2}, {0, 3}, {1, 3}};
        for (int[] pair : pairs) {
            meet[pair[0]][pair[1]] = true;
            meet[pair[1]][pair[0]] = true;
        }
        for (int a = 0; a < 5; a++) {
            for (int b = 0; b < 5; b++) {
                int step = x.begin(0, 0, 0);
                due("first of a pair", x.stage(step, a, 5, false, false), 1);
                due("pair " + a + " " + b, x.stage(step, b, 6, false, false), meet[a][b] ? -2 : 1);
                x.end(step, false);
            }
        }
    }

    private static void begin() {
        OutputStore x = new OutputStore();
        due("target -1", x.begin(-1, 0, 0), -1);
        due("target 12", x.begin(12, 0, 0), -1);
        due("configuration -1", x.begin(0, -1, 0), -1);
        due("configuration 4", x.begin(0, 4, 0), -1);
        due("run -1", x.begin(0, 0, -1), -1);
        due("run 8", x.begin(0, 0, 8), -1);
        due("the first", x.begin(11, 3, 7), 0);
        due("open already, other run", x.begin(11, 3, 0), -2);
        due("open already, but a wrong run", x.begin(11, 3, 8), -1);
        due("other target", x.begin(10, 3, 7), 1);
        due("other configuration", x.begin(11, 2, 7), 2);
        x.end(0, false);
        due("again after it ended", x.begin(11, 3, 1), 3);
        x.end(3, true);
        due("again after it ended well", x.begin(11, 3, 1), 4);
    }

    private static void beginWhenFull() {
        OutputStore x = new OutputStore();
        for (int i = 0; i < 80; i++) {
            due("step", x.begin(i % 12, i / 12 % 4, i % 8), i);
            if (i < 79) {
                x.end(i, i % 2 == 0);
            }
        }
        due("an 81st", x.begin(0, 0, 0), -1);
        due("an 81st of a target that has an open one", x.begin(79 % 12, 79 / 12 % 4, 0), -1);
        due("no step 80", x.end(80, true), NONE);
        due("the 80th", x.end(79, true), 0);
        due("still 80", x.begin(0, 0, 0), -1);
    }

    private static void stage() {
        OutputStore x = Scenes.withPaths(3);
        due("no such step", x.stage(0, 0, 5, false, false), -1);
        x.begin(0, 0, 0);
        due("staged", x.stage(0, 0, 5, false, false), 1);
        due("least content", x.stage(0, 1, Long.MIN_VALUE, false, false), 1);
        due("content -1", x.stage(0, 2, -1, false, false), 1);
        due("content 0", x.stage(0, 0, 0, false, false), -1);
        due("path 3", x.stage(0, 3, 5, false, false), -1);
        due("path -1", x.stage(0, -1, 5, false, false), -1);
        due("step 1", x.stage(1, 0, 5, false, false), -1);
        due("step -1", x.stage(-1, 0, 5, false, false), -1);
        due("no output yet", x.content(0, 0), 0);
        due("no output to read yet", x.read(0, 0), -2);
        x.end(0, true);
        due("ended step", x.stage(0, 0, 5, false, false), -1);
        due("content", x.content(0, 1), Long.MIN_VALUE);
        due("content", x.content(0, 2), -1);
    }

    private static void stageInPlace() {
        OutputStore x = Scenes.withPaths(2);
        x.begin(0, 0, 0);
        x.cache(9, true);
        due("first", x.stage(0, 0, 5, true, false), 1);
        due("in its place, lazy", x.stage(0, 0, 9, false, true), 1);
        due("the first is stored no more", x.copies(5), 0);
        due("a lazy one isn't stored", x.copies(9), 0);
        due("in its place, not lazy", x.stage(0, 0, 9, true, false), 1);
        due("stored now", x.copies(9), 1);
        due("a refusal changes nothing", x.stage(0, 0, 8, false, true), -3);
        due("a wrong call changes nothing", x.stage(0, 0, 0, false, false), -1);
        due("still stored", x.copies(9), 1);
        x.end(0, true);
        due("content", x.content(0, 0), 9);
        due("executable", x.about(0, 0, 1), 1);
        due("there", x.about(0, 0, 2), 1);
        due("only one output", x.list(0, NONE, 1), NONE);
    }

    private static void stageOrderOfAnswers() {
        OutputStore x = Scenes.withTree();
        Scenes.make(x, 1, 0, 3, 7);
        int step = x.begin(0, 0, 0);
        due("refused before the cache is asked", x.stage(step, 0, 5, false, true), -2);
        due("content 0 before it is refused", x.stage(step, 0, 0, false, true), -1);
        due("not cached", x.stage(step, 4, 5, false, true), -3);
        x.cache(5, true);
        due("cached", x.stage(step, 4, 5, false, true), 1);
        due("refused though cached", x.stage(step, 1, 5, false, true), -2);
        x.cache(5, false);
        due("not cached any more", x.stage(step, 2, 5, false, true), -3);
    }

    private static void stageTwelve() {
        OutputStore x = Scenes.withPaths(13);
        int inner = x.path(0);
        int step = x.begin(0, 0, 0);
        for (int i = 0; i < 12; i++) {
            due("staged " + i, x.stage(step, i, 100 + i, false, false), 1);
        }
        due("a 13th", x.stage(step, 12, 5, false, false), -1);
        due("a 13th that meets one", x.stage(step, inner, 5, false, false), -1);
        due("a 13th that isn't cached", x.stage(step, 12, 5, false, true), -1);
        due("one in place", x.stage(step, 11, 5, false, false), 1);
        int other = x.begin(1, 0, 0);
        due("another step has its own 12", x.stage(other, 12, 5, false, false), 1);
        int there = x.begin(0, 1, 0);
        due("the same target elsewhere, too", x.stage(there, 12, 5, false, false), 1);
        due("none stale", x.end(step, true), 0);
        due("twelve outputs", x.list(0, NONE, 11), 11);
        due("no more", x.list(0, NONE, 12), NONE);
    }

    private static void stageRefused() {
        OutputStore x = Scenes.withTree();
        Scenes.make(x, 1, 0, 1, 7);
        int step = x.begin(0, 0, 0);
        due("at another target's output", x.stage(step, 1, 5, false, false), -2);
        due("around another target's output", x.stage(step, 0, 5, false, false), -2);
        due("within another target's output", x.stage(step, 3, 5, false, false), -2);
        due("beside it", x.stage(step, 2, 5, false, false), 1);
        int other = x.begin(2, 0, 0);
        due("at another step's staged", x.stage(other, 2, 5, false, false), -2);
        due("away from it", x.stage(other, 4, 5, false, false), 1);
        int own = x.begin(1, 0, 0);
        due("around own output but staged by others inside", x.stage(own, 0, 5, false, false), -2);
        due("within own output", x.stage(own, 3, 5, false, false), 1);
        due("at own output, but staged within by itself", x.stage(own, 1, 5, false, false), -2);
        int elsewhere = x.begin(2, 1, 0);
        due("another configuration is free", x.stage(elsewhere, 0, 5, false, false), 1);
        due("own output goes, the folder comes", x.end(own, true), 1);
        due("it went", x.content(0, 1), 0);
        due("it came", x.content(0, 3), 5);
        x.end(other, false);
        due("free after a bad end", x.stage(step, 4, 6, false, false), 1);
        due("none stale", x.end(step, true), 0);
        due("target 0's empty step", x.begin(0, 0, 0), 5);
        due("its outputs are stale", x.end(5, true), 2);
        int late = x.begin(3, 0, 0);
        due("free after they went", x.stage(late, 2, 6, false, false), 1);
    }

    private static void end() {
        OutputStore x = Scenes.withPaths(5);
        due("no such step", x.end(0, true), NONE);
        due("step -1", x.end(-1, true), NONE);
        int first = x.begin(0, 0, 0);
        x.stage(first, 0, 10, false, false);
        x.stage(first, 1, 11, false, false);
        x.stage(first, 2, 12, true, false);
        due("first", x.end(first, true), 0);
        due("ended already", x.end(first, true), NONE);
        due("ended already", x.end(first, false), NONE);
        Scenes.make(x, 1, 0, 4, 50);
        Scenes.make(x, 0, 1, 0, 60);
        int second = x.begin(0, 0, 0);
        x.stage(second, 2, 22, false, false);
        x.stage(second, 3, 13, false, false);
        due("0 and 1 are stale", x.end(second, true), 2);
        due("gone", x.content(0, 0), 0);
        due("gone", x.content(0, 1), 0);
        due("replaced", x.content(0, 2), 22);
        due("replaced", x.about(0, 2, 1), 0);
        due("replaced", x.about(0, 2, 3), second);
        due("new", x.content(0, 3), 13);
        due("another target's", x.content(0, 4), 50);
        due("another configuration's", x.content(1, 0), 60);
    }

    private static void endBadly() {
        OutputStore x = Scenes.withPaths(3);
        int made = Scenes.make(x, 0, 0, 0, 10);
        int step = x.begin(0, 0, 0);
        x.stage(step, 0, 20, true, false);
        x.stage(step, 1, 21, true, false);
        due("stored", x.stored(), 3);
        due("badly", x.end(step, false), 0);
        due("as before", x.content(0, 0), 10);
        due("as before", x.about(0, 0, 3), made);
        due("nothing new", x.content(0, 1), 0);
        due("no longer stored", x.stored(), 1);
        due("ended", x.end(step, true), NONE);
        int next = x.begin(0, 0, 0);
        x.stage(next, 2, 22, false, false);
        due("what was staged badly stays away", x.end(next, true), 1);
        due("nothing of it", x.content(0, 1), 0);
    }

    private static void endReplacesAll() {
        OutputStore x = Scenes.withPaths(40);
        for (int i = 0; i < 4; i++) {
            int step = x.begin(i, 2, 0);
            for (int k = 0; k < 10; k++) {
                due("forty paths", x.stage(step, i * 10 + k, 1 + i * 10 + k, k % 2 == 0, false), 1);
            }
            due("none stale", x.end(step, true), 0);
        }
        due("forty outputs", x.list(2, NONE, 39), 39);
        due("no more", x.list(2, NONE, 40), NONE);
        due("forty contents", x.stored(), 40);
        int last = x.begin(3, 2, 0);
        x.stage(last, 39, 7, false, false);
        due("nine stale", x.end(last, true), 9);
        due("the last one", x.list(2, NONE, 30), 39);
        due("no more", x.list(2, NONE, 31), NONE);
        due("cleared", x.clear(2), 31);
    }

    private static void abandon() {
        OutputStore x = Scenes.withPaths(3);
        due("run -1", x.abandon(-1), NONE);
        due("run 8", x.abandon(8), NONE);
        due("nothing open", x.abandon(7), 0);
        int a = x.begin(0, 0, 7);
        int b = x.begin(1, 0, 6);
        int c = x.begin(1, 3, 7);
        int d = x.begin(2, 0, 7);
        x.end(d, false);
        x.stage(a, 0, 5, false, false);
        x.stage(b, 1, 5, false, false);
        x.stage(c, 0, 5, false, false);
        due("three copies", x.copies(5), 3);
        due("two are open", x.abandon(7), 2);
        due("one copy", x.copies(5), 1);
        due("again", x.abandon(7), 0);
        due("ended", x.end(a, true), NONE);
        due("ended", x.end(c, true), NONE);
        due("the other run's is open", x.end(b, true), 0);
        due("no output of it", x.content(0, 0), 0);
        due("an output of the other", x.content(0, 1), 5);
        due("may begin again", x.begin(0, 0, 7), 4);
    }

    private static void cache() {
        OutputStore x = Scenes.withPaths(1);
        int step = x.begin(0, 0, 0);
        due("0 on", x.cache(0, true), false);
        due("0 off", x.cache(0, false), false);
        due("off what isn't there", x.cache(5, false), true);
        for (int i = 1; i <= 60; i++) {
            due("on", x.cache(i, true), true);
        }
        due("a 61st", x.cache(61, true), false);
        due("it isn't there", x.stage(step, 0, 61, false, true), -3);
        due("on again", x.cache(60, true), true);
        due("off what isn't there, when full", x.cache(61, false), true);
        due("off", x.cache(1, false), true);
        due("off is off", x.stage(step, 0, 1, false, true), -3);
        due("the others stay", x.stage(step, 0, 60, false, true), 1);
        due("the others stay", x.stage(step, 0, 2, false, true), 1);
        due("there is room", x.cache(Long.MAX_VALUE, true), true);
        due("it is there", x.stage(step, 0, Long.MAX_VALUE, false, true), 1);
        due("full", x.cache(Long.MIN_VALUE, true), false);
        due("the cache stores nothing", x.stored(), 0);
        due("once is enough", x.cache(60, false), true);
        due("twice on, once off", x.stage(step, 0, 60, false, true), -3);
    }

    private static void read() {
        OutputStore x = Scenes.withPaths(2);
        Scenes.make(x, 0, 0, 0, 5);
        due("configuration -1", x.read(-1, 0), -1);
        due("configuration 4", x.read(4, 0), -1);
        due("path -1", x.read(0, -1), -1);
        due("path 2", x.read(0, 2), -1);
        due("no output", x.read(0, 1), -2);
        due("no output there", x.read(3, 0), -2);
        due("read", x.read(0, 0), 0);
        due("read again", x.read(0, 0), 1);
        due("an output and two holds", x.copies(5), 3);
        due("not dirty", x.dirty(0, 0), false);
    }

    private static void readLazy() {
        OutputStore x = Scenes.withPaths(3);
        Scenes.makeLazy(x, 4, 2, 0, 5);
        due("lazy", x.about(2, 0, 2), 0);
        due("its content is told", x.content(2, 0), 5);
        due("not stored", x.copies(5), 0);
        due("restored", x.read(2, 0), 0);
        due("there", x.about(2, 0, 2), 1);
        due("stored and held", x.copies(5), 2);
        x.cache(5, false);
        due("there without the cache", x.read(2, 0), 1);
        Scenes.makeLazy(x, 4, 2, 1, 6);
        x.cache(6, false);
        due("asking loses nothing", x.content(2, 1), 6);
        due("lost", x.read(2, 1), -3);
        due("gone", x.content(2, 1), 0);
        due("gone", x.about(2, 1, 0), NONE);
        due("dirty", x.dirty(4, 2), true);
        due("dirty there alone", x.dirty(4, 0), false);
        due("dirty it alone", x.dirty(3, 2), false);
        due("lost once", x.read(2, 1), -2);
        due("cached too late", x.cache(6, true), true);
        due("still gone", x.read(2, 1), -2);
        Scenes.makeLazy(x, 4, 3, 2, 8);
        x.cache(8, false);
        x.cache(8, true);
        due("cached again in time", x.read(3, 2), 2);
    }

    private static void readWhenFull() {
        OutputStore x = Scenes.withPaths(2);
        Scenes.makeLazy(x, 1, 0, 1, 6);
        Scenes.make(x, 0, 0, 0, 5);
        for (int i = 0; i < 100; i++) {
            due("hold", x.read(0, 0), i);
        }
        due("a 101st", x.read(0, 0), -1);
        due("copies", x.copies(5), 101);
        due("the 100th is held", x.held(99), 5);
        due("no 101st is held", x.held(100), 0);
        due("no 101st to let go", x.letGo(100), false);
        due("let go", x.letGo(99), true);
        due("100 in all", x.read(0, 0), -1);
        due("there are 100 before there is no output", x.read(1, 0), -1);
        x.cache(6, false);
        due("there are 100 before it is lost", x.read(0, 1), -1);
        due("not lost", x.content(0, 1), 6);
        due("not dirty", x.dirty(1, 0), false);
    }

    private static void held() {
        OutputStore x = Scenes.withPaths(1);
        Scenes.make(x, 0, 0, 0, -5);
        x.read(0, 0);
        due("held", x.held(0), -5);
        due("hold 1", x.held(1), 0);
        due("hold -1", x.held(-1), 0);
        due("hold 100", x.held(100), 0);
        Scenes.make(x, 0, 0, 0, 6);
        due("whatever becomes of the output", x.held(0), -5);
        due("cleared", x.clear(0), 1);
        due("still held", x.held(0), -5);
        due("still stored", x.copies(-5), 1);
        x.letGo(0);
        due("let go", x.held(0), 0);
    }

    private static void letGo() {
        OutputStore x = Scenes.withPaths(1);
        due("no hold", x.letGo(0), false);
        Scenes.make(x, 0, 0, 0, 5);
        x.read(0, 0);
        x.read(0, 0);
        due("hold -1", x.letGo(-1), false);
        due("hold 2", x.letGo(2), false);
        due("hold 100", x.letGo(100), false);
        due("let go", x.letGo(0), true);
        due("already", x.letGo(0), false);
        due("the other one", x.held(1), 5);
        due("the output and the other one", x.copies(5), 2);
        due("a new number", x.read(0, 0), 2);
    }

    private static void content() {
        OutputStore x = Scenes.withPaths(2);
        Scenes.make(x, 0, 3, 1, Long.MAX_VALUE);
        due("content", x.content(3, 1), Long.MAX_VALUE);
        due("no output", x.content(3, 0), 0);
        due("no output", x.content(2, 1), 0);
        due("configuration 4", x.content(4, 1), 0);
        due("configuration -1", x.content(-1, 1), 0);
        due("path 2", x.content(3, 2), 0);
        due("path -1", x.content(3, -1), 0);
    }

    private static void about() {
        OutputStore x = Scenes.withPaths(2);
        x.begin(5, 0, 0);
        int step = x.begin(11, 3, 2);
        x.cache(6, true);
        x.stage(step, 0, 5, true, false);
        x.stage(step, 1, 6, false, true);
        due("none yet", x.about(3, 0, 0), NONE);
        x.end(step, true);
        int[] first = {11, 1, 1, step};
        int[] second = {11, 0, 0, step};
        for (int what = 0; what < 4; what++) {
            due("about the first", x.about(3, 0, what), first[what]);
            due("about the second", x.about(3, 1, what), second[what]);
            due("about none", x.about(2, 0, what), NONE);
            due("about path 2", x.about(3, 2, what), NONE);
            due("about path -1", x.about(3, -1, what), NONE);
            due("about configuration 4", x.about(4, 0, what), NONE);
        }
        due("what -1", x.about(3, 0, -1), NONE);
        due("what 4", x.about(3, 0, 4), NONE);
    }

    private static void list() {
        OutputStore x = Scenes.withTree();
        int step = x.begin(0, 1, 0);
        x.stage(step, 4, 5, false, false);
        x.stage(step, 3, 5, false, false);
        x.stage(step, 2, 5, false, false);
        due("staged ones aren't outputs", x.list(1, NONE, 0), NONE);
        x.end(step, true);
        int[][] due = {{2, 3}, {3}, {2}, {3}, {4}};
        for (int path = 0; path < 5; path++) {
            for (int i = 0; i < 4; i++) {
                int want = i < due[path].length ? due[path][i] : NONE;
                due("list(1, " + path + ", " + i + ")", x.list(1, path, i), want);
            }
            due("i of -1", x.list(1, path, -1), NONE);
        }
        due("all", x.list(1, NONE, 0), 2);
        due("all", x.list(1, NONE, 2), 4);
        due("all", x.list(1, NONE, 3), NONE);
        due("i of -1", x.list(1, NONE, -1), NONE);
        due("path -2", x.list(1, -2, 0), NONE);
        due("path 5", x.list(1, 5, 0), NONE);
        due("another configuration", x.list(0, NONE, 0), NONE);
        due("configuration 4", x.list(4, NONE, 0), NONE);
        due("configuration -1", x.list(-1, NONE, 0), NONE);
    }

    private static void dirty() {
        OutputStore x = Scenes.withPaths(2);
        Scenes.makeLazy(x, 11, 3, 0, 5);
        x.cache(5, false);
        int open = x.begin(11, 3, 0);
        x.read(3, 0);
        due("dirty", x.dirty(11, 3), true);
        due("target 12", x.dirty(12, 3), false);
        due("target -1", x.dirty(-1, 3), false);
        due("configuration 4", x.dirty(11, 4), false);
        due("configuration -1", x.dirty(11, -1), false);
        x.end(open, false);
        due("a bad end leaves it", x.dirty(11, 3), true);
        Scenes.make(x, 11, 2, 0, 5);
        Scenes.make(x, 10, 3, 0, 5);
        due("others' ends leave it", x.dirty(11, 3), true);
        x.clear(3);
        due("clearing leaves it", x.dirty(11, 3), true);
        x.end(x.begin(11, 3, 0), true);
        due("a good end mends it", x.dirty(11, 3), false);
    }

    private static void clear() {
        OutputStore x = Scenes.withPaths(3);
        Scenes.make(x, 0, 3, 0, 5);
        Scenes.make(x, 1, 3, 1, 5);
        Scenes.makeLazy(x, 2, 3, 2, 6);
        Scenes.make(x, 0, 2, 0, 5);
        due("configuration -1", x.clear(-1), NONE);
        due("configuration 4", x.clear(4), NONE);
        due("an empty one", x.clear(0), 0);
        int open = x.begin(4, 3, 0);
        due("a step is open", x.clear(3), NONE);
        due("nothing went", x.content(3, 0), 5);
        int elsewhere = x.begin(4, 1, 0);
        x.end(open, false);
        due("a step is open elsewhere", x.clear(3), 3);
        due("again", x.clear(3), 0);
        due("the other configuration stays", x.content(2, 0), 5);
        due("one copy", x.copies(5), 1);
        due("it was open", x.end(elsewhere, true), 0);
    }

    private static void copies() {
        OutputStore x = Scenes.withPaths(4);
        due("of nothing", x.copies(0), 0);
        due("none", x.copies(5), 0);
        int step = x.begin(0, 0, 0);
        x.stage(step, 0, 5, false, false);
        due("staged", x.copies(5), 1);
        x.stage(step, 1, 5, false, false);
        due("staged twice", x.copies(5), 2);
        x.cache(5, true);
        x.stage(step, 2, 5, false, true);
        due("lazy doesn't count", x.copies(5), 2);
        x.end(step, true);
        due("outputs", x.copies(5), 2);
        x.read(0, 2);
        due("restored and held", x.copies(5), 4);
        int again = x.begin(0, 0, 0);
        x.stage(again, 0, 5, false, false);
        due("staged over an output", x.copies(5), 5);
        due("two stale", x.end(again, true), 2);
        due("an output and a hold", x.copies(5), 2);
        due("of 0 still", x.copies(0), 0);
        x.letGo(0);
        x.clear(0);
        due("all gone", x.copies(5), 0);
        due("of 0 still", x.copies(0), 0);
    }

    private static void stored() {
        OutputStore x = Scenes.withPaths(12);
        int step = x.begin(0, 0, 0);
        for (int i = 0; i < 12; i++) {
            x.stage(step, i, 1 + i / 2, false, false);
        }
        due("six different", x.stored(), 6);
        x.end(step, true);
        due("six different", x.stored(), 6);
        int other = x.begin(0, 1, 0);
        x.stage(other, 0, 3, false, false);
        due("the same elsewhere", x.stored(), 6);
        x.stage(other, 0, 1L << 32, false, false);
        due("one more", x.stored(), 7);
        x.stage(other, 1, (1L << 32) + 1, false, false);
        due("no low half is taken for the whole", x.stored(), 8);
        x.end(other, false);
        x.read(0, 0);
        x.clear(0);
        due("held", x.stored(), 1);
        x.letGo(0);
        due("none", x.stored(), 0);
        Scenes.makeLazy(x, 0, 0, 0, 9);
        due("lazy", x.stored(), 0);
        x.read(0, 0);
        due("read", x.stored(), 1);
    }

    /** No call throws or changes anything, whatever it is given. */
    private static void wildArguments() {
        OutputStore x = Scenes.withPaths(2);
        Scenes.make(x, 0, 0, 0, 5);
        int open = x.begin(1, 1, 1);
        for (int w : WILD) {
            due("path", x.path(w), NONE);
            due("begin", x.begin(w, 0, 0), -1);
            due("begin", x.begin(0, w, 0), -1);
            due("begin", x.begin(0, 0, w), -1);
            due("stage", x.stage(w, 0, 5, false, false), -1);
            due("stage", x.stage(open, w, 5, false, false), -1);
            due("end", x.end(w, true), NONE);
            due("abandon", x.abandon(w), NONE);
            due("read", x.read(w, 0), -1);
            due("read", x.read(0, w), -1);
            due("held", x.held(w), 0);
            due("letGo", x.letGo(w), false);
            due("content", x.content(w, 0), 0);
            due("content", x.content(0, w), 0);
            due("about", x.about(w, 0, 0), NONE);
            due("about", x.about(0, w, 0), NONE);
            due("about", x.about(0, 0, w), NONE);
            due("list", x.list(w, 0, 0), NONE);
            due("list", x.list(0, w, 0), NONE);
            due("list", x.list(0, 0, w), NONE);
            due("dirty", x.dirty(w, 0), false);
            due("dirty", x.dirty(0, w), false);
            due("clear", x.clear(w), NONE);
            due("copies", x.copies(w), 0);
        }
        due("one output still", x.copies(5), 1);
        due("still open", x.end(open, true), 0);
        due("the next step", x.begin(2, 2, 2), 2);
        due("the next path", x.path(NONE), 2);
    }
}
