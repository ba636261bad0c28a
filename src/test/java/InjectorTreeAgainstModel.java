import java.util.ArrayList;
import java.util.HashMap;
import java.util.HashSet;
import java.util.List;
import java.util.Map;
import java.util.Random;
import java.util.Set;

/**
 * Runs of calls, drawn from fixed seeds, on an InjectorTree and on a naive program of the same
 * document that shares nothing with it: errors are exceptions, and what an error must leave as it
 * was is copied before each getting. The first call of a run that they answer differently is told
 * with the calls before it.
 */
public final class InjectorTreeAgainstModel {
    private static final int RUNS = 6000;
    private static final int CALLS = 512;
    private static final int MOST_CALLS_A_DRAW = 6;
    private static final int MOST_TOLD = 3;

    private record Pair(int injector, int key) { }

    private record Need(int key, boolean lazy) { }

    private enum Kind { CONSTANT, LINK, CLASS }

    private record Binding(Kind kind, int number, List<Need> needs) { }

    private record Instance(Pair pair, int scope, List<Need> needs, List<Long> values) { }

    private static final class Failure extends Exception {
        private static final long serialVersionUID = 1L;
        private final int error;

        Failure(int error) {
            this.error = error;
        }
    }

    private static final class Model {
        final List<Integer> parents = new ArrayList<>(List.of(-1));
        final Map<Pair, Binding> bindings = new HashMap<>();
        List<Need> buffer = new ArrayList<>();
        List<Instance> instances = new ArrayList<>();
        Map<Pair, Long> single = new HashMap<>();
        Map<Pair, Long> request = new HashMap<>();
        boolean open = false;

        boolean bad(int injector, int key) {
            return injector < 0 || injector >= parents.size() || key < 0 || key > 11;
        }

        int child(int parent) {
            if (parent < 0 || parent >= parents.size() || parents.size() == 3) {
                return -1;
            }
            parents.add(parent);
            return parents.size() - 1;
        }

        int need(int key, boolean lazy) {
            if (key < 0 || key > 11 || buffer.size() == 4) {
                return -1;
            }
            buffer.add(new Need(key, lazy));
            return buffer.size();
        }

        int drop() {
            int dropped = buffer.size();
            buffer.clear();
            return dropped;
        }

        int bind(int injector, int key, Binding binding) {
            if (bad(injector, key) || bindings.containsKey(new Pair(injector, key))) {
                return -1;
            }
            bindings.put(new Pair(injector, key), binding);
            return 1;
        }

        int bindConstant(int injector, int key, int value) {
            return bind(injector, key, new Binding(Kind.CONSTANT, value, List.of()));
        }

        int bindLink(int injector, int key, int target) {
            if (target < 0 || target > 11) {
                return -1;
            }
            return bind(injector, key, new Binding(Kind.LINK, target, List.of()));
        }

        int bindClass(int injector, int key, int scope) {
            if (scope < 0 || scope > 2) {
                return -1;
            }
            List<Need> needs = List.copyOf(buffer);
            if (bind(injector, key, new Binding(Kind.CLASS, scope, needs)) == -1) {
                return -1;
            }
            buffer.clear();
            return needs.size();
        }

        int unbind(int injector, int key) {
            if (bad(injector, key) || bindings.remove(new Pair(injector, key)) == null) {
                return -1;
            }
            single.remove(new Pair(injector, key));
            request.remove(new Pair(injector, key));
            return 1;
        }

        int open() {
            if (open) {
                return -1;
            }
            open = true;
            return 1;
        }

        int close() {
            if (!open) {
                return -1;
            }
            int kept = request.size();
            request.clear();
            open = false;
            return kept;
        }

        int home(int injector, int key) {
            if (bad(injector, key)) {
                return -1;
            }
            for (int at = injector; at != -1; at = parents.get(at)) {
                if (bindings.containsKey(new Pair(at, key))) {
                    return at;
                }
            }
            return 3;
        }

        long getting(int injector, int key, Set<Pair> work) throws Failure {
            Pair pair = new Pair(home(injector, key), key);
            Binding binding = bindings.get(pair);
            if (binding == null) {
                throw new Failure(-2);
            }
            if (binding.kind == Kind.CONSTANT) {
                return 10000000000L + binding.number;
            }
            if (single.containsKey(pair)) {
                return single.get(pair);
            }
            if (request.containsKey(pair)) {
                return request.get(pair);
            }
            if (work.contains(pair)) {
                throw new Failure(-3);
            }
            Set<Pair> more = new HashSet<>(work);
            more.add(pair);
            if (binding.kind == Kind.LINK) {
                return getting(pair.injector, binding.number, more);
            }
            return making(pair, binding, more);
        }

        long making(Pair pair, Binding binding, Set<Pair> work) throws Failure {
            if (binding.number == 2 && !open) {
                throw new Failure(-4);
            }
            List<Long> values = new ArrayList<>();
            for (Need need : binding.needs) {
                values.add(need.lazy ? 20000000000L + 16 * pair.injector + need.key
                        : getting(pair.injector, need.key, work));
            }
            if (instances.size() == 100) {
                throw new Failure(-5);
            }
            long number = instances.size();
            instances.add(new Instance(pair, binding.number, binding.needs, values));
            if (binding.number == 1) {
                single.put(pair, number);
            }
            if (binding.number == 2) {
                request.put(pair, number);
            }
            return number;
        }

        long attempt(int injector, int key, boolean stays) {
            List<Instance> instancesBefore = new ArrayList<>(instances);
            Map<Pair, Long> singleBefore = new HashMap<>(single);
            Map<Pair, Long> requestBefore = new HashMap<>(request);
            long answer;
            try {
                answer = getting(injector, key, Set.of());
                if (stays) {
                    return answer;
                }
            } catch (Failure failure) {
                answer = failure.error;
            }
            instances = instancesBefore;
            single = singleBefore;
            request = requestBefore;
            return answer;
        }

        long get(int injector, int key) {
            return bad(injector, key) ? -1 : attempt(injector, key, true);
        }

        boolean badNeed(int instance, int need) {
            return instance < 0 || instance >= instances.size()
                    || need < 0 || need >= instances.get(instance).needs.size();
        }

        long ask(int instance, int need) {
            if (badNeed(instance, need)) {
                return -1;
            }
            Instance asked = instances.get(instance);
            Need wanted = asked.needs.get(need);
            return wanted.lazy ? attempt(asked.pair.injector, wanted.key, true)
                    : asked.values.get(need);
        }

        long held(int instance, int need) {
            return badNeed(instance, need) ? -1 : instances.get(instance).values.get(need);
        }

        int about(int instance, int what) {
            if (instance < 0 || instance >= instances.size() || what < 0 || what > 3) {
                return -1;
            }
            Instance it = instances.get(instance);
            return List.of(it.pair.key, it.pair.injector, it.needs.size(), it.scope).get(what);
        }

        int broken(int injector) {
            if (bad(injector, 0)) {
                return -1;
            }
            int key = 0;
            while (key < 12 && (home(injector, key) == 3 || attempt(injector, key, false) >= 0)) {
                key++;
            }
            return key;
        }

        int reach(int injector, int key) {
            if (bad(injector, key)) {
                return -1;
            }
            Set<Pair> met = new HashSet<>();
            comeTo(new Pair(injector, key), met);
            int keys = 0;
            for (Pair pair : met) {
                keys |= 1 << pair.key;
            }
            return keys;
        }

        void comeTo(Pair pair, Set<Pair> met) {
            if (!met.add(pair)) {
                return;
            }
            int home = home(pair.injector, pair.key);
            Binding binding = bindings.get(new Pair(home, pair.key));
            if (binding == null) {
                return;
            }
            if (binding.kind == Kind.LINK) {
                comeTo(new Pair(home, binding.number), met);
            }
            for (Need need : binding.needs) {
                comeTo(new Pair(home, need.key), met);
            }
        }

        int count(int what) {
            if (what < 0 || what > 5) {
                return -1;
            }
            return List.of(parents.size(), instances.size(), bindings.size(), single.size(),
                    request.size(), open ? 1 : 0).get(what);
        }
    }

    /** One run: what it draws leans on a temper, so that runs differ in more than their numbers. */
    private static final class Run {
        final Random random;
        final InjectorTree tree = new InjectorTree();
        final Model model = new Model();
        final StringBuilder told = new StringBuilder();
        final int keys;
        final int lazyPercent;
        final int wrongPercent;
        final int unbindPercent;
        final int classPercent;
        final int downPercent;
        final int nonePercent;
        int calls = 0;
        boolean agrees = true;

        Run(long seed) {
            random = new Random(seed);
            keys = 2 + random.nextInt(11);
            lazyPercent = random.nextInt(70);
            wrongPercent = random.nextInt(8);
            unbindPercent = random.nextInt(100) * random.nextInt(2);
            classPercent = 20 + random.nextInt(75);
            downPercent = random.nextInt(3) * 50;
            nonePercent = random.nextInt(3) * 45;
        }

        boolean chance(int percent) {
            return random.nextInt(100) < percent;
        }

        int outOf(int low, int high) {
            switch (random.nextInt(4)) {
                case 0: return low - 1;
                case 1: return high + 1;
                case 2: return Integer.MIN_VALUE + random.nextInt(3);
                default: return Integer.MAX_VALUE - random.nextInt(3);
            }
        }

        int key() {
            return chance(wrongPercent) ? outOf(0, 11) : random.nextInt(keys);
        }

        /** A key that another one leads to: leading down alone makes no circles, only large gets. */
        int keyUnder(int key) {
            return key > 0 && key < 12 && chance(downPercent) ? random.nextInt(key) : key();
        }

        int injector() {
            return chance(wrongPercent) ? outOf(0, 2) : random.nextInt(3);
        }

        int scope() {
            if (chance(nonePercent)) {
                return 0;
            }
            return chance(wrongPercent) ? outOf(0, 2) : random.nextInt(3);
        }

        int instance() {
            int made = model.instances.size();
            return made == 0 || chance(wrongPercent) ? outOf(0, made - 1) : random.nextInt(made);
        }

        void same(String call, long got, long want) {
            calls++;
            told.append(call).append(" = ").append(got).append('\n');
            if (got != want && agrees) {
                agrees = false;
                told.append("  but due is ").append(want).append('\n');
            }
        }

        void call() {
            int draw = random.nextInt(100);
            if (draw < 30) {
                callBind();
            } else if (draw < 36) {
                callState();
            } else if (draw < 60) {
                int i = injector();
                int k = key();
                same("get(" + i + ", " + k + ")", tree.get(i, k), model.get(i, k));
            } else if (draw < 78) {
                callInstance();
            } else {
                callLook();
            }
        }

        void callBind() {
            int i = injector();
            int k = key();
            int n = k == 0 && chance(downPercent) ? 0 : random.nextInt(5);
            if (chance(classPercent)) {
                for (int drawn = 0; drawn < n; drawn++) {
                    int key = keyUnder(k);
                    boolean lazy = chance(lazyPercent);
                    same("need(" + key + ", " + lazy + ")", tree.need(key, lazy),
                            model.need(key, lazy));
                }
                int s = scope();
                same("bindClass(" + i + ", " + k + ", " + s + ")", tree.bindClass(i, k, s),
                        model.bindClass(i, k, s));
            } else if (n == 0 || chance(50)) {
                int value = chance(50) ? random.nextInt() : random.nextInt(9) - 4;
                same("bindConstant(" + i + ", " + k + ", " + value + ")",
                        tree.bindConstant(i, k, value), model.bindConstant(i, k, value));
            } else {
                int target = keyUnder(k);
                same("bindLink(" + i + ", " + k + ", " + target + ")",
                        tree.bindLink(i, k, target), model.bindLink(i, k, target));
            }
            if (chance(unbindPercent)) {
                int ui = injector();
                int uk = key();
                same("unbind(" + ui + ", " + uk + ")", tree.unbind(ui, uk), model.unbind(ui, uk));
            }
        }

        void callChild() {
            int parent = chance(wrongPercent) ? outOf(0, 2)
                    : random.nextInt(model.parents.size());
            same("child(" + parent + ")", tree.child(parent), model.child(parent));
        }

        void callState() {
            switch (random.nextInt(5)) {
                case 0:
                    callChild();
                    break;
                case 1:
                    same("drop()", tree.drop(), model.drop());
                    break;
                case 2:
                    same("close()", tree.close(), model.close());
                    break;
                default:
                    same("open()", tree.open(), model.open());
                    break;
            }
        }

        void callInstance() {
            int instance = instance();
            int what = chance(wrongPercent) ? outOf(0, 3) : random.nextInt(4);
            String rest = "(" + instance + ", " + what + ")";
            switch (random.nextInt(4)) {
                case 0:
                    same("about" + rest, tree.about(instance, what), model.about(instance, what));
                    break;
                case 1:
                    same("held" + rest, tree.held(instance, what), model.held(instance, what));
                    break;
                default:
                    same("ask" + rest, tree.ask(instance, what), model.ask(instance, what));
                    break;
            }
        }

        void callLook() {
            int i = injector();
            int k = key();
            int what = chance(wrongPercent) ? outOf(0, 5) : random.nextInt(6);
            switch (random.nextInt(4)) {
                case 0:
                    same("broken(" + i + ")", tree.broken(i), model.broken(i));
                    break;
                case 1:
                    same("reach(" + i + ", " + k + ")", tree.reach(i, k), model.reach(i, k));
                    break;
                case 2:
                    same("home(" + i + ", " + k + ")", tree.home(i, k), model.home(i, k));
                    break;
                default:
                    same("count(" + what + ")", tree.count(what), model.count(what));
                    break;
            }
        }

        void go() {
            for (int wished = random.nextInt(3); wished > 0; wished--) {
                callChild();
            }
            if (chance(50)) {
                same("open()", tree.open(), model.open());
            }
            while (calls <= CALLS - MOST_CALLS_A_DRAW && agrees) {
                call();
            }
        }
    }

    public static void main(String[] args) {
        int wrong = 0;
        for (int seed = 0; seed < RUNS && wrong < MOST_TOLD; seed++) {
            Run run = new Run(seed);
            run.go();
            if (!run.agrees) {
                wrong++;
                System.out.println("run of seed " + seed + ":\n" + run.told);
            }
        }
        if (wrong != 0) {
            System.exit(1);
        }
    }
}
