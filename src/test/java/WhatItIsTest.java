import java.util.ArrayList;
import java.util.HashMap;
import java.util.List;
import java.util.Map;
import java.util.Random;
import java.util.TreeMap;

/**
 * The document's first sentence, clause by clause, over runs of calls with fixed seeds: what a store shows
 * before each call and after it. A look takes many calls, so it is had from a new store to which the run's
 * calls up to there were made: no store comes to more than 512.
 */
public final class WhatItIsTest {
    private static final int RUNS = 300;
    private static final int CALLS = 150;
    private static final int PATHS = 9;
    private static final int CONFIGURATIONS = 2;
    private static final int TARGETS = 3;
    private static final int CONTENTS = 6;

    private enum Kind { BEGIN, STAGE, END, ABANDON, CACHE, READ, LET_GO, CLEAR }

    private record Call(Kind kind, int a, int b, long content, boolean yes, boolean lazy) {
        long on(OutputStore x) {
            return switch (kind) {
                case BEGIN -> x.begin(a, b, a % 2);
                case STAGE -> x.stage(a, b, content, yes, lazy);
                case END -> x.end(a, yes);
                case ABANDON -> x.abandon(a);
                case CACHE -> x.cache(content, yes) ? 1 : 0;
                case READ -> x.read(a, b);
                case LET_GO -> x.letGo(a) ? 1 : 0;
                case CLEAR -> x.clear(a);
            };
        }
    }

    private record Place(int configuration, int path) implements Comparable<Place> {
        public int compareTo(Place other) {
            return Integer.compare(configuration * PATHS + path, other.configuration * PATHS + other.path);
        }
    }

    private record Output(long content, int target, boolean executable, boolean there, int step) {
    }

    private record Begun(int target, int configuration, int run, Map<Integer, Call> staged) {
    }

    /** All that a store shows. */
    private static final class Look {
        final Map<Place, Output> outputs = new TreeMap<>();
        final List<Long> held = new ArrayList<>();
        final boolean[][] dirty = new boolean[TARGETS][CONFIGURATIONS];
        final int[] copies = new int[CONTENTS + 1];
        final int stored;

        Look(OutputStore x, int holds) {
            for (int c = 0; c < CONFIGURATIONS; c++) {
                for (int p = 0; p < PATHS; p++) {
                    if (x.content(c, p) != 0) {
                        outputs.put(new Place(c, p), new Output(x.content(c, p), x.about(c, p, 0),
                            x.about(c, p, 1) == 1, x.about(c, p, 2) == 1, x.about(c, p, 3)));
                    }
                }
                for (int t = 0; t < TARGETS; t++) {
                    dirty[t][c] = x.dirty(t, c);
                }
            }
            for (int h = 0; h < holds; h++) {
                held.add(x.held(h));
            }
            for (int content = 1; content <= CONTENTS; content++) {
                copies[content] = x.copies(content);
            }
            stored = x.stored();
        }
    }

    private static final Map<String, Integer> SEEN = new TreeMap<>();

    private final int run;
    private final Random random;
    private final int[] outer = new int[PATHS];
    private final List<Call> calls = new ArrayList<>();
    // What the answers told: STEPS that are OPEN with what they have STAGED, and how many there are in all.
    private final Map<Integer, Begun> open = new HashMap<>();
    private int steps = 0;
    private int holds = 0;

    private WhatItIsTest(int run) {
        this.run = run;
        random = new Random(run);
        for (int p = 0; p < PATHS; p++) {
            outer[p] = random.nextInt(3) == 0 ? -1 : random.nextInt(p + 1) - 1;
        }
    }

    public static void main(String[] args) {
        for (int run = 0; run < RUNS; run++) {
            new WhatItIsTest(run).go();
        }
        for (String clause : List.of("well", "stale", "badly", "abandoned", "restored", "lost", "let go", "cleared")) {
            Checks.due("the runs came to: " + clause, SEEN.getOrDefault(clause, 0) > 20, true);
        }
        Checks.finish();
    }

    private void go() {
        OutputStore x = replayed();
        Look before = new Look(replayed(), 0);
        for (int i = 0; i < CALLS; i++) {
            Call call = some(before);
            long answer = call.on(x);
            calls.add(call);
            if (call.kind == Kind.READ && answer >= 0) {
                holds++;
            }
            Look after = new Look(replayed(), holds);
            look(call, answer, before, after);
            before = after;
        }
    }

    private OutputStore replayed() {
        OutputStore x = new OutputStore();
        for (int inside : outer) {
            x.path(inside);
        }
        for (Call call : calls) {
            call.on(x);
        }
        return x;
    }

    private Call some(Look before) {
        int configuration = random.nextInt(CONFIGURATIONS);
        int path = random.nextInt(PATHS);
        int step = Math.max(0, steps - 1 - random.nextInt(4));
        long content = 1 + random.nextInt(CONTENTS);
        boolean yes = random.nextInt(3) != 0;
        int luck = random.nextInt(100);
        if (luck < 14) {
            return new Call(Kind.BEGIN, random.nextInt(TARGETS), configuration, 0, false, false);
        } else if (luck < 50) {
            return new Call(Kind.STAGE, step, path, content, yes, random.nextBoolean());
        } else if (luck < 62) {
            return new Call(Kind.END, step, 0, 0, yes, false);
        } else if (luck < 63) {
            return new Call(Kind.ABANDON, random.nextInt(2), 0, 0, false, false);
        } else if (luck < 76) {
            return new Call(Kind.CACHE, 0, 0, content, yes, false);
        } else if (luck < 93) {
            List<Place> places = new ArrayList<>(before.outputs.keySet());
            // A place by luck alone has an OUTPUT too seldom.
            boolean any = places.isEmpty() || random.nextInt(4) == 0;
            Place place = any ? new Place(configuration, path) : places.get(random.nextInt(places.size()));
            return new Call(Kind.READ, place.configuration, place.path, 0, false, false);
        } else if (luck < 98) {
            return new Call(Kind.LET_GO, random.nextInt(holds + 1), 0, 0, false, false);
        }
        return new Call(Kind.CLEAR, configuration, 0, 0, false, false);
    }

    private void due(String clause, boolean isSo) {
        Checks.due("run " + run + ", call " + calls.size() + ": " + clause, isSo, true);
    }

    private static void saw(String clause) {
        SEEN.merge(clause, 1, Integer::sum);
    }

    private void look(Call call, long answer, Look before, Look after) {
        switch (call.kind) {
            case BEGIN -> begun(call, answer);
            case STAGE -> staged(call, answer);
            case END -> ended(call, answer, before, after);
            case ABANDON -> abandoned(call, answer);
            case READ -> read(call, answer, before, after);
            case CLEAR -> cleared(call, answer, before, after);
            default -> { }
        }
        if (call.kind != Kind.READ && call.kind != Kind.CLEAR && !(call.kind == Kind.END && call.yes)) {
            due("no other call changes the outputs", before.outputs.equals(after.outputs));
        }
        dirtyTillAnEnd(call, before, after);
        heldTillLetGo(call, answer, before, after);
        neverAFileAndAFolder(after);
        storedAsLongAsSomethingHasThem(after);
    }

    private void begun(Call call, long answer) {
        boolean busy = open.values().stream()
            .anyMatch(step -> step.target == call.a && step.configuration == call.b);
        due("numbered from 0, and at most one open", answer == (busy ? -2 : steps));
        if (answer >= 0) {
            open.put(steps, new Begun(call.a, call.b, call.a % 2, new HashMap<>()));
            steps++;
        }
    }

    private void staged(Call call, long answer) {
        if (answer == 1) {
            open.get(call.a).staged.put(call.b, call);
        }
    }

    /** Steps come in whole or not at all; what is stale goes. */
    private void ended(Call call, long answer, Look before, Look after) {
        Begun step = open.remove(call.a);
        if (step == null) {
            due("no such open step", answer == -1 && before.outputs.equals(after.outputs));
            return;
        }
        if (!call.yes) {
            saw("badly");
            due("badly: none is stale", answer == 0);
            return;
        }
        saw("well");
        Map<Place, Output> want = new TreeMap<>(before.outputs);
        want.entrySet().removeIf(e ->
            e.getKey().configuration == step.configuration && e.getValue().target == step.target);
        int stale = before.outputs.size() - want.size();
        for (Map.Entry<Integer, Call> e : step.staged.entrySet()) {
            Place place = new Place(step.configuration, e.getKey());
            Call made = e.getValue();
            if (before.outputs.containsKey(place)) {
                due("nothing of another target goes", before.outputs.get(place).target == step.target);
                stale--;
            }
            want.put(place, new Output(made.content, step.target, made.yes, !made.lazy, call.a));
        }
        due("a step comes in whole", want.equals(after.outputs));
        due("how many were stale", answer == stale);
        if (stale > 0) {
            saw("stale");
        }
        due("dirty no longer", !after.dirty[step.target][step.configuration]);
    }

    private void abandoned(Call call, long answer) {
        int was = open.size();
        open.values().removeIf(step -> step.run == call.a);
        due("how many are abandoned", answer == was - open.size());
        if (answer > 0) {
            saw("abandoned");
        }
    }

    /** Restored from a cache when they are read, if they are. */
    private void read(Call call, long answer, Look before, Look after) {
        Place place = new Place(call.a, call.b);
        Output was = before.outputs.get(place);
        Map<Place, Output> want = new TreeMap<>(before.outputs);
        if (was == null) {
            due("nothing to read", answer == -2);
        } else if (was.there || answer >= 0) {
            want.put(place, new Output(was.content, was.target, was.executable, true, was.step));
            due("a new hold", answer == holds - 1 && after.held.get(holds - 1) == was.content);
            saw(was.there ? "there" : "restored");
        } else {
            want.remove(place);
            due("lost", answer == -3 && after.dirty[was.target][call.a]);
            saw("lost");
        }
        if (was != null && !was.there) {
            due("restored if the cache has it", (answer >= 0) == cacheHas(was.content));
        }
        due("reading leaves the rest", want.equals(after.outputs));
    }

    /** What the last call of the CACHE's with a CONTENT said; sixty are never reached here. */
    private boolean cacheHas(long content) {
        boolean has = false;
        for (Call call : calls) {
            if (call.kind == Kind.CACHE && call.content == content) {
                has = call.yes;
            }
        }
        return has;
    }

    private void cleared(Call call, long answer, Look before, Look after) {
        boolean busy = open.values().stream().anyMatch(step -> step.configuration == call.a);
        Map<Place, Output> want = new TreeMap<>(before.outputs);
        if (!busy) {
            want.keySet().removeIf(place -> place.configuration == call.a);
        }
        due("cleared", want.equals(after.outputs));
        due("how many are cleared", answer == (busy ? -1 : before.outputs.size() - want.size()));
        if (answer > 0) {
            saw("cleared");
        }
    }

    private void dirtyTillAnEnd(Call call, Look before, Look after) {
        for (int t = 0; t < TARGETS; t++) {
            for (int c = 0; c < CONFIGURATIONS; c++) {
                if (before.dirty[t][c] && !after.dirty[t][c]) {
                    due("dirty till an end", call.kind == Kind.END && call.yes);
                }
                if (!before.dirty[t][c] && after.dirty[t][c]) {
                    due("dirty by a loss alone", call.kind == Kind.READ && call.a == c);
                }
            }
        }
    }

    /** Held while they are read. */
    private void heldTillLetGo(Call call, long answer, Look before, Look after) {
        List<Long> want = new ArrayList<>(before.held);
        if (call.kind == Kind.LET_GO && answer == 1) {
            due("what is let go was held", want.set(call.a, 0L) != 0);
            saw("let go");
        } else if (call.kind == Kind.LET_GO) {
            due("let go already, or none such", call.a >= want.size() || want.get(call.a) == 0);
        }
        due("held till let go", want.equals(after.held.subList(0, want.size())));
    }

    private boolean within(int path, int other) {
        int at = outer[path];
        while (at > other) {
            at = outer[at];
        }
        return at == other;
    }

    /** A path is never a file and a folder, nor of two targets. */
    private void neverAFileAndAFolder(Look look) {
        for (Place one : look.outputs.keySet()) {
            for (Place other : look.outputs.keySet()) {
                if (one.configuration == other.configuration) {
                    due("never a file and a folder", !within(one.path, other.path));
                }
            }
        }
    }

    /** Contents stored as long as something has them. */
    private void storedAsLongAsSomethingHasThem(Look look) {
        int[] want = new int[CONTENTS + 1];
        look.outputs.values().stream().filter(Output::there).forEach(output -> want[(int) output.content]++);
        look.held.forEach(content -> want[(int) (long) content]++);
        for (Begun step : open.values()) {
            step.staged.values().stream().filter(call -> !call.lazy).forEach(call -> want[(int) call.content]++);
        }
        int different = 0;
        for (int content = 1; content <= CONTENTS; content++) {
            due("as many copies of " + content + " as something has", look.copies[content] == want[content]);
            different += want[content] > 0 ? 1 : 0;
        }
        due("how many different ones are stored", look.stored == different);
    }
}
