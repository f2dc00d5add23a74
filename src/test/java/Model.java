import java.util.ArrayList;
import java.util.HashSet;
import java.util.LinkedHashMap;
import java.util.List;
import java.util.Map;
import java.util.Set;
import java.util.TreeMap;

/** The document told a second time, with the Java library and nothing kept that can be worked out. */
final class Model {
    private record Linked(int step, long content, boolean executable, boolean lazy) {
    }

    private static final class Step {
        final int target;
        final int configuration;
        final int run;
        boolean open = true;
        final Map<Integer, Linked> staged = new LinkedHashMap<>();

        Step(int target, int configuration, int run) {
            this.target = target;
            this.configuration = configuration;
            this.run = run;
        }
    }

    /** For each PATH the set of those that it is WITHIN. */
    private final List<Set<Integer>> around = new ArrayList<>();
    private final List<Step> steps = new ArrayList<>();
    private final List<TreeMap<Integer, Linked>> outputs = new ArrayList<>();
    private final Set<Long> cached = new HashSet<>();
    private final List<Long> holds = new ArrayList<>();
    private final Set<List<Integer>> dirty = new HashSet<>();

    Model() {
        for (int c = 0; c < 4; c++) {
            outputs.add(new TreeMap<>());
        }
    }

    private static boolean in(int number, int count) {
        return 0 <= number && number < count;
    }

    private boolean meet(int a, int b) {
        return a == b || around.get(a).contains(b) || around.get(b).contains(a);
    }

    private Linked output(int configuration, int path) {
        return in(configuration, 4) ? outputs.get(configuration).get(path) : null;
    }

    int path(int inside) {
        if (around.size() == 40 || inside != -1 && !in(inside, around.size())) {
            return -1;
        }
        Set<Integer> set = new HashSet<>();
        if (inside != -1) {
            set.add(inside);
            set.addAll(around.get(inside));
        }
        around.add(set);
        return around.size() - 1;
    }

    int begin(int target, int configuration, int run) {
        if (!in(target, 12) || !in(configuration, 4) || !in(run, 8) || steps.size() == 80) {
            return -1;
        }
        if (steps.stream().anyMatch(s -> s.open && s.target == target && s.configuration == configuration)) {
            return -2;
        }
        steps.add(new Step(target, configuration, run));
        return steps.size() - 1;
    }

    private Step open(int step) {
        return in(step, steps.size()) && steps.get(step).open ? steps.get(step) : null;
    }

    int stage(int step, int path, long content, boolean executable, boolean lazy) {
        Step own = open(step);
        if (own == null || !in(path, around.size()) || content == 0) {
            return -1;
        }
        if (own.staged.size() == 12 && !own.staged.containsKey(path)) {
            return -1;
        }
        if (refused(own, path)) {
            return -2;
        }
        if (lazy && !cached.contains(content)) {
            return -3;
        }
        own.staged.put(path, new Linked(step, content, executable, lazy));
        return 1;
    }

    private boolean refused(Step own, int path) {
        for (Map.Entry<Integer, Linked> e : outputs.get(own.configuration).entrySet()) {
            if (steps.get(e.getValue().step).target != own.target && meet(path, e.getKey())) {
                return true;
            }
        }
        for (Step s : steps) {
            if (s.open && s.configuration == own.configuration) {
                for (int other : s.staged.keySet()) {
                    if (meet(path, other) && (s != own || other != path)) {
                        return true;
                    }
                }
            }
        }
        return false;
    }

    int end(int step, boolean well) {
        Step own = open(step);
        if (own == null) {
            return -1;
        }
        own.open = false;
        if (!well) {
            return 0;
        }
        Map<Integer, Linked> there = outputs.get(own.configuration);
        Set<Integer> old = new HashSet<>();
        there.forEach((path, linked) -> {
            if (steps.get(linked.step).target == own.target) {
                old.add(path);
            }
        });
        there.keySet().removeAll(old);
        there.putAll(own.staged);
        dirty.remove(List.of(own.target, own.configuration));
        old.removeAll(own.staged.keySet());
        return old.size();
    }

    int abandon(int run) {
        if (!in(run, 8)) {
            return -1;
        }
        int count = 0;
        for (Step s : steps) {
            if (s.open && s.run == run) {
                s.open = false;
                count++;
            }
        }
        return count;
    }

    boolean cache(long content, boolean on) {
        if (content == 0 || on && !cached.contains(content) && cached.size() == 60) {
            return false;
        }
        if (on) {
            cached.add(content);
        } else {
            cached.remove(content);
        }
        return true;
    }

    int read(int configuration, int path) {
        if (!in(configuration, 4) || !in(path, around.size()) || holds.size() == 100) {
            return -1;
        }
        Linked linked = output(configuration, path);
        if (linked == null) {
            return -2;
        }
        if (linked.lazy) {
            if (!cached.contains(linked.content)) {
                outputs.get(configuration).remove(path);
                dirty.add(List.of(steps.get(linked.step).target, configuration));
                return -3;
            }
            outputs.get(configuration).put(path, new Linked(linked.step, linked.content, linked.executable, false));
        }
        holds.add(linked.content);
        return holds.size() - 1;
    }

    long held(int hold) {
        return in(hold, holds.size()) ? holds.get(hold) : 0;
    }

    boolean letGo(int hold) {
        return in(hold, holds.size()) && holds.set(hold, 0L) != 0;
    }

    long content(int configuration, int path) {
        Linked linked = output(configuration, path);
        return linked == null ? 0 : linked.content;
    }

    int about(int configuration, int path, int what) {
        Linked linked = output(configuration, path);
        if (linked == null || !in(what, 4)) {
            return -1;
        }
        int[] answers = {steps.get(linked.step).target, linked.executable ? 1 : 0, linked.lazy ? 0 : 1, linked.step};
        return answers[what];
    }

    int list(int configuration, int path, int i) {
        if (!in(configuration, 4)) {
            return -1;
        }
        List<Integer> found = new ArrayList<>();
        for (int at : outputs.get(configuration).keySet()) {
            if (path == -1 || at == path || around.get(at).contains(path)) {
                found.add(at);
            }
        }
        return in(i, found.size()) ? found.get(i) : -1;
    }

    boolean dirty(int target, int configuration) {
        return dirty.contains(List.of(target, configuration));
    }

    int clear(int configuration) {
        if (!in(configuration, 4) || steps.stream().anyMatch(s -> s.open && s.configuration == configuration)) {
            return -1;
        }
        int count = outputs.get(configuration).size();
        outputs.get(configuration).clear();
        return count;
    }

    private List<Long> allStored() {
        List<Long> all = new ArrayList<>();
        List<Linked> linked = new ArrayList<>();
        outputs.forEach(map -> linked.addAll(map.values()));
        steps.stream().filter(s -> s.open).forEach(s -> linked.addAll(s.staged.values()));
        linked.stream().filter(l -> !l.lazy).forEach(l -> all.add(l.content));
        holds.stream().filter(h -> h != 0).forEach(all::add);
        return all;
    }

    int copies(long content) {
        return (int) allStored().stream().filter(c -> c == content).count();
    }

    int stored() {
        return new HashSet<>(allStored()).size();
    }
}
