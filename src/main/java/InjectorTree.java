/**
 * An injector: keys are bound to constants, to other keys or to classes with needs; values are made
 * on demand with all that they need, kept by scopes, and looked up through a tree of injectors.
 */
public final class InjectorTree {
    public static final int REFUSED = -1;
    public static final int MISSING = -2;
    public static final int CIRCULAR = -3;
    public static final int OUTSIDE = -4;
    public static final int FULL = -5;
    public static final long CONSTANT = 10000000000L;
    public static final long HANDLE = 20000000000L;

    private static final int KEYS = 12;
    private static final int MOST_INJECTORS = 3;
    private static final int PAIRS = MOST_INJECTORS * KEYS;
    private static final int MOST_NEEDS = 4;
    private static final int MOST_INSTANCES = 100;
    private static final int HANDLES_PER_INJECTOR = 16;
    private static final int NOWHERE = 3;
    private static final int NO_PARENT = -1;
    private static final int NOT_KEPT = -1;

    private static final int SCOPE_NONE = 0;
    private static final int SCOPE_SINGLE = 1;
    private static final int SCOPE_REQUEST = 2;

    private enum Kind { CONSTANT, LINK, CLASS }

    /** Keys that are needed, in order, each plain or lazy. */
    private static final class Needs {
        private final int[] keys;
        private final boolean[] lazy;
        private int size;

        private Needs() {
            keys = new int[MOST_NEEDS];
            lazy = new boolean[MOST_NEEDS];
        }

        private void append(int key, boolean isLazy) {
            if (size < MOST_NEEDS) {
                keys[size] = key;
                lazy[size] = isLazy;
                size++;
            }
        }
    }

    /**
     * What a key is bound to in the injector where the binding lives. A link has its target as its
     * one plain need, so that all that a binding leads to stands in its needs.
     */
    private static final class Binding {
        private final Kind kind;
        private final int injector;
        private final int key;
        private final int constant;
        private final int scope;
        private final Needs needs;
        private int kept;
        private boolean inWork;

        private Binding(Kind kind, int injector, int key, int constant, int scope, Needs needs) {
            this.kind = kind;
            this.injector = injector;
            this.key = key;
            this.constant = constant;
            this.scope = scope;
            this.needs = needs;
            this.kept = NOT_KEPT;
        }
    }

    private final int[] parents;
    private final Binding[] bindings;
    /** The binding that each instance was made from: it tells of the instance even when unbound. */
    private final Binding[] makers;
    /** The values of all instances' needs, a row of MOST_NEEDS for each instance. */
    private final long[] values;
    /**
     * The values got so far for a class that is being worked on, a row for each pair. The instance
     * has no number before all its needs are got, and a pair is never worked on twice at once.
     */
    private final long[] gathered;
    private Needs buffer;
    private int injectors;
    private int made;
    private boolean requestOpen;

    public InjectorTree() {
        parents = new int[MOST_INJECTORS];
        parents[0] = NO_PARENT;
        injectors = 1;
        bindings = new Binding[PAIRS];
        makers = new Binding[MOST_INSTANCES];
        values = new long[MOST_INSTANCES * MOST_NEEDS];
        gathered = new long[PAIRS * MOST_NEEDS];
        buffer = new Needs();
    }

    public int child(int parent) {
        if (!isInjector(parent) || injectors >= MOST_INJECTORS) {
            return REFUSED;
        }
        int number = injectors;
        parents[number] = parent;
        injectors++;
        return number;
    }

    public int need(int key, boolean lazy) {
        if (!isKey(key) || buffer.size >= MOST_NEEDS) {
            return REFUSED;
        }
        buffer.append(key, lazy);
        return buffer.size;
    }

    public int drop() {
        int dropped = buffer.size;
        buffer.size = 0;
        return dropped;
    }

    public int bindConstant(int injector, int key, int value) {
        if (!isUnbound(injector, key)) {
            return REFUSED;
        }
        bindings[pairOf(injector, key)] =
                new Binding(Kind.CONSTANT, injector, key, value, SCOPE_NONE, new Needs());
        return 1;
    }

    public int bindLink(int injector, int key, int target) {
        if (!isKey(target) || !isUnbound(injector, key)) {
            return REFUSED;
        }
        Needs needs = new Needs();
        needs.append(target, false);
        bindings[pairOf(injector, key)] =
                new Binding(Kind.LINK, injector, key, 0, SCOPE_NONE, needs);
        return 1;
    }

    public int bindClass(int injector, int key, int scope) {
        if (scope < SCOPE_NONE || scope > SCOPE_REQUEST || !isUnbound(injector, key)) {
            return REFUSED;
        }
        Needs needs = buffer;
        bindings[pairOf(injector, key)] =
                new Binding(Kind.CLASS, injector, key, 0, scope, needs);
        // The binding owns the old buffer from here on: emptying it would take the class's needs.
        buffer = new Needs();
        return needs.size;
    }

    public int unbind(int injector, int key) {
        if (!isPair(injector, key) || bindings[pairOf(injector, key)] == null) {
            return REFUSED;
        }
        bindings[pairOf(injector, key)] = null;
        return 1;
    }

    public int open() {
        if (requestOpen) {
            return REFUSED;
        }
        requestOpen = true;
        return 1;
    }

    public int close() {
        if (!requestOpen) {
            return REFUSED;
        }
        int kept = countKept(SCOPE_REQUEST);
        for (Binding binding : bindings) {
            if (binding != null && binding.scope == SCOPE_REQUEST) {
                binding.kept = NOT_KEPT;
            }
        }
        requestOpen = false;
        return kept;
    }

    public long get(int injector, int key) {
        if (!isPair(injector, key)) {
            return REFUSED;
        }
        return obtainFromOutside(injector, key);
    }

    public long ask(int instance, int need) {
        Binding maker = makerOf(instance);
        if (maker == null || !hasNeed(maker, need)) {
            return REFUSED;
        }
        if (maker.needs.lazy[need]) {
            return obtainFromOutside(maker.injector, maker.needs.keys[need]);
        }
        return values[instance * MOST_NEEDS + need];
    }

    public long held(int instance, int need) {
        Binding maker = makerOf(instance);
        if (maker == null || !hasNeed(maker, need)) {
            return REFUSED;
        }
        return values[instance * MOST_NEEDS + need];
    }

    public int about(int instance, int what) {
        Binding maker = makerOf(instance);
        if (maker == null) {
            return REFUSED;
        }
        switch (what) {
            case 0:
                return maker.key;
            case 1:
                return maker.injector;
            case 2:
                return maker.needs.size;
            case 3:
                return maker.scope;
            default:
                return REFUSED;
        }
    }

    public int broken(int injector) {
        if (!isInjector(injector)) {
            return REFUSED;
        }
        for (int key = 0; key < KEYS; key++) {
            if (seenFrom(injector, key) != null && wouldFail(injector, key)) {
                return key;
            }
        }
        return KEYS;
    }

    public int reach(int injector, int key) {
        if (!isPair(injector, key)) {
            return REFUSED;
        }
        long met = 1L << pairOf(injector, key);
        long waiting = met;
        // A pair waits once at most, so there are no more rounds than pairs.
        for (int round = 0; round < PAIRS && waiting != 0; round++) {
            int pair = Long.numberOfTrailingZeros(waiting);
            long fresh = nextPairs(pair / KEYS, pair % KEYS) & ~met;
            met |= fresh;
            waiting = (waiting & (waiting - 1)) | fresh;
        }
        return keysOf(met);
    }

    public int home(int injector, int key) {
        if (!isPair(injector, key)) {
            return REFUSED;
        }
        Binding binding = seenFrom(injector, key);
        return binding == null ? NOWHERE : binding.injector;
    }

    public int count(int what) {
        switch (what) {
            case 0:
                return injectors;
            case 1:
                return made;
            case 2:
                return countBindings();
            case 3:
                return countKept(SCOPE_SINGLE);
            case 4:
                return countKept(SCOPE_REQUEST);
            case 5:
                return requestOpen ? 1 : 0;
            default:
                return REFUSED;
        }
    }

    private boolean isInjector(int injector) {
        return injector >= 0 && injector < injectors;
    }

    private static boolean isKey(int key) {
        return key >= 0 && key < KEYS;
    }

    private boolean isPair(int injector, int key) {
        return isInjector(injector) && isKey(key);
    }

    private boolean isUnbound(int injector, int key) {
        return isPair(injector, key) && bindings[pairOf(injector, key)] == null;
    }

    private static int pairOf(int injector, int key) {
        return injector * KEYS + key;
    }

    private Binding makerOf(int instance) {
        return instance >= 0 && instance < made ? makers[instance] : null;
    }

    private static boolean hasNeed(Binding maker, int need) {
        return need >= 0 && need < maker.needs.size;
    }

    private Binding seenFrom(int injector, int key) {
        int at = injector;
        for (int step = 0; step < MOST_INJECTORS && at != NO_PARENT; step++) {
            Binding own = bindings[pairOf(at, key)];
            if (own != null) {
                return own;
            }
            at = parents[at];
        }
        return null;
    }

    private long obtainFromOutside(int injector, int key) {
        int madeBefore = made;
        long value = obtain(injector, key, 0);
        if (isError(value)) {
            unmakeFrom(madeBefore);
        }
        return value;
    }

    private boolean wouldFail(int injector, int key) {
        int madeBefore = made;
        long value = obtain(injector, key, 0);
        unmakeFrom(madeBefore);
        return isError(value);
    }

    /** Every value is 0 or more: even the least constant, as CONSTANT is above any int. */
    private static boolean isError(long value) {
        return value < 0;
    }

    private void unmakeFrom(int first) {
        for (Binding binding : bindings) {
            if (binding != null && binding.kept >= first) {
                binding.kept = NOT_KEPT;
            }
        }
        made = first;
    }

    /** GETS the key in the injector; depth is how many pairs are being worked on already. */
    private long obtain(int injector, int key, int depth) {
        Binding binding = seenFrom(injector, key);
        if (binding == null) {
            return MISSING;
        }
        if (binding.kind == Kind.CONSTANT) {
            return CONSTANT + binding.constant;
        }
        if (binding.kept != NOT_KEPT) {
            return binding.kept;
        }
        // With as many pairs in work as there are, this one is among them.
        if (binding.inWork || depth >= PAIRS) {
            return CIRCULAR;
        }
        binding.inWork = true;
        long value = binding.kind == Kind.LINK
                ? obtain(binding.injector, binding.needs.keys[0], depth + 1)
                : obtainNew(binding, depth);
        binding.inWork = false;
        return value;
    }

    private long obtainNew(Binding binding, int depth) {
        if (binding.scope == SCOPE_REQUEST && !requestOpen) {
            return OUTSIDE;
        }
        Needs needs = binding.needs;
        int row = pairOf(binding.injector, binding.key) * MOST_NEEDS;
        for (int i = 0; i < needs.size; i++) {
            long value = needs.lazy[i]
                    ? handleOf(binding.injector, needs.keys[i])
                    : obtain(binding.injector, needs.keys[i], depth + 1);
            if (isError(value)) {
                return value;
            }
            gathered[row + i] = value;
        }
        return made >= MOST_INSTANCES ? FULL : makeInstance(binding, row);
    }

    private int makeInstance(Binding binding, int row) {
        int instance = made;
        made++;
        makers[instance] = binding;
        System.arraycopy(gathered, row, values, instance * MOST_NEEDS, MOST_NEEDS);
        if (binding.scope != SCOPE_NONE) {
            binding.kept = instance;
        }
        return instance;
    }

    private static long handleOf(int injector, int key) {
        return HANDLE + HANDLES_PER_INJECTOR * injector + key;
    }

    /** The pairs one step on, as a set: bit p for the pair p. */
    private long nextPairs(int injector, int key) {
        Binding binding = seenFrom(injector, key);
        if (binding == null) {
            return 0;
        }
        long next = 0;
        for (int i = 0; i < binding.needs.size; i++) {
            next |= 1L << pairOf(binding.injector, binding.needs.keys[i]);
        }
        return next;
    }

    private static int keysOf(long pairs) {
        long keys = 0;
        for (int injector = 0; injector < MOST_INJECTORS; injector++) {
            keys |= pairs >>> pairOf(injector, 0);
        }
        return (int) keys & ((1 << KEYS) - 1);
    }

    private int countBindings() {
        int found = 0;
        for (Binding binding : bindings) {
            if (binding != null) {
                found++;
            }
        }
        return found;
    }

    private int countKept(int scope) {
        int found = 0;
        for (Binding binding : bindings) {
            if (binding != null && binding.scope == scope && binding.kept != NOT_KEPT) {
                found++;
            }
        }
        return found;
    }
}
