import java.util.ArrayList;
import java.util.Arrays;
import java.util.List;

/**
 * Each sentence of the document that names a boundary case has a test of its own here, which quotes
 * it. A test is runs of calls, each on a new object, with the answers that are due:
 *
 * <pre>
 *   get(0, 3) = MISSING       the answer is due
 *   get(0, 3)                 any answer but REFUSED or an error is due
 *   4 * get(0, 3) = 19        the same call so often; the last answer is due
 *   bind(0, 3, SINGLE, 1, ~2) a class with a plain need of 1 and a lazy one of 2; none is REFUSED
 * </pre>
 */
public final class InjectorTreeBoundaries {
    private static final int MOST_CALLS = 512;
    private static final int[] BAD_KEYS =
            {-1, 12, 13, 16, 32, -12, Integer.MIN_VALUE, Integer.MAX_VALUE};
    /** 2 to the 30th is 0 again when a row of 4 or of 12 is found by it. */
    private static final int WRAPS = 1 << 30;
    private static final int[] BAD_INJECTORS =
            {-1, 3, 4, 16, -12, WRAPS, Integer.MIN_VALUE, Integer.MAX_VALUE};
    private static final int[] BAD_INSTANCES =
            {-1, 100, 101, WRAPS, Integer.MIN_VALUE, Integer.MAX_VALUE};
    private static final int[] BAD_NEEDS =
            {-1, -4, 4, 5, 8, 32, Integer.MIN_VALUE, Integer.MAX_VALUE};
    private static final int[] BAD_SCOPES =
            {-1, 3, 4, Integer.MIN_VALUE, Integer.MAX_VALUE};

    /** Nothing done yet. */
    private static final String NEW = "";

    /**
     * Some of everything: two injectors, an open request, a buffer with two needs, an instance of
     * each scope; key 5 is MISSING something, 6 is CIRCULAR, 7 is whole and not got yet.
     */
    private static final String BUSY = """
            child(0) = 1
            bindConstant(0, 0, 7) = 1; bindLink(1, 1, 0) = 1
            bind(0, 2, SINGLE, 0, ~4); bind(1, 3, REQUEST, 2, 1); bind(1, 4, NONE, 3)
            bind(0, 5, SINGLE, 2, 7, 11); bindLink(0, 6, 6) = 1; bind(0, 7, SINGLE)
            open() = 1; get(1, 4) = 2; count(3) = 1; count(4) = 1
            need(8, lazy) = 1; need(0, plain) = 2
            """;

    /** All that has a limit is at it, but for the bindings: 3 injectors, 4 needs, 100 instances. */
    private static final String FULL_UP = """
            child(0) = 1; child(1) = 2
            bind(0, 0, NONE); bind(1, 1, NONE, 0, 0, 0, 0); bind(1, 2, NONE, 1, 1, 1, 1)
            bind(2, 3, SINGLE); bind(2, 4, REQUEST, ~0); bind(2, 5, NONE, 11)
            open() = 1; get(2, 3) = 0; get(2, 4) = 1
            4 * get(2, 2) = 85; 2 * get(2, 1) = 95; 4 * get(0, 0) = 99; count(1) = 100
            need(0, plain) = 1; need(1, lazy) = 2; need(2, plain) = 3; need(3, lazy) = 4
            """;

    private static String sentence = "";
    private static int sentences = 0;
    private static int wrong = 0;

    private static void fail(String what) {
        wrong++;
        System.out.println(sentence + "\n    " + what);
    }

    private static void sentence(String where, String quoted) {
        sentence = where + ": \"" + quoted + "\"";
        sentences++;
    }

    /** An object with the calls that were made on it. */
    private static final class Run {
        final InjectorTree tree = new InjectorTree();
        final StringBuilder told = new StringBuilder();
        int calls = 0;

        void go(String text) {
            for (String line : text.split("[;\n]")) {
                if (!line.isBlank()) {
                    step(line.strip());
                }
            }
        }

        private void step(String line) {
            int equals = line.indexOf('=');
            String call = equals < 0 ? line : line.substring(0, equals).strip();
            int star = call.indexOf('*');
            int times = star < 0 ? 1 : Integer.parseInt(call.substring(0, star).strip());
            long got = 0;
            for (int i = 0; i < times; i++) {
                got = answer(call.substring(star + 1).strip());
            }
            if (equals < 0 && got < 0) {
                fail("after" + told + "\n    " + call + " answered " + got);
            }
            if (equals >= 0 && got != value(line.substring(equals + 1).strip())) {
                fail("after" + told + "\n    " + line + " is due, answered was " + got);
            }
            told.append(' ').append(line).append(';');
        }

        long answer(String call) {
            int bracket = call.indexOf('(');
            String name = call.substring(0, bracket);
            String rest = call.substring(bracket + 1, call.length() - 1);
            String[] arguments = rest.isEmpty() ? new String[0] : rest.split(",");
            if (name.equals("bind")) {
                return bind(arguments);
            }
            int[] numbers = new int[arguments.length];
            for (int i = 0; i < numbers.length; i++) {
                numbers[i] = (int) value(arguments[i].strip());
            }
            return answer(name, numbers);
        }

        private long bind(String[] arguments) {
            for (int i = 3; i < arguments.length; i++) {
                String need = arguments[i].strip();
                boolean lazy = need.startsWith("~");
                answer("need(" + (lazy ? need.substring(1) + ", lazy)" : need + ", plain)"));
            }
            long needs = answer("bindClass(" + arguments[0] + "," + arguments[1] + ","
                    + arguments[2] + ")");
            return needs == arguments.length - 3 ? needs : -1;
        }

        long answer(String name, int... a) {
            calls++;
            if (calls > MOST_CALLS) {
                fail("the test makes more than " + MOST_CALLS + " calls on one object");
            }
            try {
                return call(name, a);
            } catch (RuntimeException | StackOverflowError thrown) {
                fail("after" + told + "\n    " + name + Arrays.toString(a) + " threw " + thrown);
                return Long.MIN_VALUE;
            }
        }

        private long call(String name, int... a) {
            return switch (name) {
                case "child" -> tree.child(a[0]);
                case "need" -> tree.need(a[0], a[1] == 1);
                case "drop" -> tree.drop();
                case "bindConstant" -> tree.bindConstant(a[0], a[1], a[2]);
                case "bindLink" -> tree.bindLink(a[0], a[1], a[2]);
                case "bindClass" -> tree.bindClass(a[0], a[1], a[2]);
                case "unbind" -> tree.unbind(a[0], a[1]);
                case "open" -> tree.open();
                case "close" -> tree.close();
                case "get" -> tree.get(a[0], a[1]);
                case "ask" -> tree.ask(a[0], a[1]);
                case "held" -> tree.held(a[0], a[1]);
                case "about" -> tree.about(a[0], a[1]);
                case "broken" -> tree.broken(a[0]);
                case "reach" -> tree.reach(a[0], a[1]);
                case "home" -> tree.home(a[0], a[1]);
                case "count" -> tree.count(a[0]);
                default -> throw new IllegalArgumentException("no such call");
            };
        }

        private long value(String text) {
            int plus = text.indexOf('+');
            if (plus >= 0) {
                return value(text.substring(0, plus).strip())
                        + value(text.substring(plus + 1).strip());
            }
            return switch (text) {
                case "REFUSED" -> -1;
                case "MISSING" -> -2;
                case "CIRCULAR" -> -3;
                case "OUTSIDE" -> -4;
                case "FULL" -> -5;
                case "CONSTANT" -> 10000000000L;
                case "HANDLE" -> 20000000000L;
                case "NONE", "plain" -> 0;
                case "SINGLE", "lazy" -> 1;
                case "REQUEST" -> 2;
                case "MIN" -> Integer.MIN_VALUE;
                case "MAX" -> Integer.MAX_VALUE;
                default -> Long.parseLong(text);
            };
        }

        /**
         * What can be told of the state: by looking first, then by calls that change it. Of the
         * instances only the last are told, as 512 calls are too few for a hundred.
         */
        List<String> picture() {
            List<String> seen = new ArrayList<>();
            for (int what = 0; what < 6; what++) {
                look(seen, "count", what);
            }
            for (int injector = 0; injector < 3; injector++) {
                look(seen, "broken", injector);
                for (int key = 0; key < 12; key++) {
                    look(seen, "home", injector, key);
                    look(seen, "reach", injector, key);
                }
            }
            lookAtInstances(seen);
            for (int injector = 0; injector < 3; injector++) {
                for (int key = 0; key < 12; key++) {
                    look(seen, "get", injector, key);
                }
            }
            lookAtInstances(seen);
            lookAtBuffer(seen);
            look(seen, "close");
            look(seen, "open");
            look(seen, "child", 0);
            look(seen, "child", 0);
            look(seen, "child", 0);
            return seen;
        }

        private void lookAtInstances(List<String> seen) {
            int made = tree.count(1);
            calls++;
            for (int instance = Math.max(0, made - 12); instance <= made; instance++) {
                for (int what = 0; what < 4; what++) {
                    look(seen, "about", instance, what);
                    look(seen, "held", instance, what);
                }
            }
        }

        /** The needs in the buffer are told by a class that takes them. */
        private void lookAtBuffer(List<String> seen) {
            look(seen, "unbind", 0, 10);
            look(seen, "bindClass", 0, 10, 0);
            look(seen, "reach", 0, 10);
            look(seen, "get", 0, 10);
            look(seen, "drop");
        }

        private void look(List<String> seen, String name, int... a) {
            seen.add(name + Arrays.toString(a) + " = " + answer(name, a));
        }
    }

    private static Run run(String text) {
        Run run = new Run();
        run.go(text);
        return run;
    }

    /** Makes each of the calls on an object of its own, and compares it with one without it. */
    private static void changesNothing(String before, String calls) {
        for (String line : calls.split("[;\n]")) {
            if (!line.isBlank()) {
                List<String> without = run(before).picture();
                List<String> with = run(before + "\n" + line).picture();
                if (!with.equals(without)) {
                    fail("after " + before + line + "\n    should change nothing, but changes "
                            + firstChange(with, without));
                }
            }
        }
    }

    private static String firstChange(List<String> with, List<String> without) {
        for (int i = 0; i < Math.min(with.size(), without.size()); i++) {
            if (!with.get(i).equals(without.get(i))) {
                return without.get(i) + " to " + with.get(i);
            }
        }
        return "how many instances there are";
    }

    /** The call with each number put in for #, each REFUSED. */
    private static String refused(String call, int... numbers) {
        StringBuilder all = new StringBuilder();
        for (int number : numbers) {
            all.append(call.replace("#", Integer.toString(number))).append(" = REFUSED\n");
        }
        return all.toString();
    }

    private static String forKeys(String call) {
        StringBuilder all = new StringBuilder();
        for (int key = 0; key < 12; key++) {
            all.append(call.replace("#", Integer.toString(key))).append('\n');
        }
        return all.toString();
    }

    public static void main(String[] args) {
        terms();
        getting();
        promises1To7();
        promises8To13();
        promises14To18();
        System.out.println(sentences + " sentences, " + wrong + " wrong answers");
        if (wrong != 0) {
            System.exit(1);
        }
    }

    private static void terms() {
        calls512();
        keys0To11();
        threeInjectors();
        parentMadeBefore();
        oneBinding();
        noBindingAtFirst();
        needs0To4();
        scopes0To2();
        requestAtFirstNot();
        seenOwnOrParents();
        livesWhereItIs();
        instancesNumberedAsMade();
        constantsOfAllInts();
        handlesOfAllPairs();
        instancesStay();
        refusedChangeNothing();
        outOfRangeBeforeAllElse();
    }

    private static void getting() {
        missing();
        constantIsThat();
        keptIsThat();
        keptByRequestOnlyWhileOpen();
        workedOnIsCircular();
        workedOnUntilItEnds();
        linkInItsInjector();
        outsideBeforeNeeds();
        needsInOrder();
        lazyWhetherBoundOrNot();
        plainInItsInjector();
        errorEndsAll();
        fullAt100();
        fullAfterNeeds();
        madeWithKeyInjectorValues();
        keptByItsScope();
        errorLeavesAll();
        errorGivesNumbersAnew();
    }

    private static void promises1To7() {
        newObject();
        childAnswersItsNumber();
        childRefused();
        needAnswersHowManyThen();
        needRefused();
        dropAnswersHowManyWereThere();
        bindConstantAnswers1();
        bindConstantRefused();
        bindLinkAnswers1();
        bindLinkRefused();
        bindClassTakesTheBuffer();
        bindClassRefused();
    }

    private static void promises8To13() {
        unbindTakesTheKept();
        unbindRefused();
        openAnswers1();
        openRefused();
        closeAnswersHowManyWereKept();
        closeRefused();
        getAnswersValueOrError();
        getRefused();
        askLazyGetsNow();
        askPlainHas();
        askRefused();
        heldHas();
        heldRefused();
    }

    private static void promises14To18() {
        aboutTells();
        aboutRefused();
        brokenLeast();
        brokenNone();
        brokenOnlySeen();
        brokenChangesNothing();
        brokenRefused();
        reachSet();
        reachByLinksAndNeeds();
        reachWithoutBinding();
        reachRefused();
        homeOr3();
        homeRefused();
        countTells();
        countRefused();
    }

    // Terms

    private static void calls512() {
        sentence("What it is", "An object is used for at most 512 calls after it has been made; "
                + "what later calls answer is free.");
        Run bindings = run("bind(0, 0, SINGLE); get(0, 0) = 0");
        for (int i = 0; i < 127; i++) {
            bindings.go("need(" + i % 12 + ", lazy) = 1; bindClass(0, 1, NONE) = 1");
            bindings.go("unbind(0, 1) = 1; get(0, 0) = 0");
        }
        bindings.go("get(0, 1) = MISSING; get(0, 0) = 0");
        if (bindings.calls != MOST_CALLS) {
            fail("the run has " + bindings.calls + " calls");
        }
        Run instances = run("bind(0, 0, NONE); 100 * get(0, 0) = 99; 410 * get(0, 0) = FULL");
        instances.go("count(1) = 100");
        if (instances.calls != MOST_CALLS) {
            fail("the run has " + instances.calls + " calls");
        }
        // Later answers are free, but rule 7 of LANGUAGE.md lets no call throw in any state.
        for (int i = 0; i < 5000; i++) {
            bindings.tree.bindClass(i % 3, i % 12, i % 3);
            bindings.tree.get(i % 3, i % 12);
            bindings.tree.need(i % 12, false);
            bindings.tree.broken(i % 3);
        }
    }

    private static void keys0To11() {
        sentence("Terms", "KEYS 0 .. 11.");
        run("""
            need(0, plain) = 1; need(11, plain) = 2; need(0, lazy) = 3; need(11, lazy) = 4
            bindClass(0, 5, NONE) = 4
            bindConstant(0, 0, 3) = 1; bindLink(0, 11, 0) = 1
            get(0, 0) = CONSTANT + 3; get(0, 11) = CONSTANT + 3; get(0, 5) = 0
            reach(0, 0) = 1; reach(0, 11) = 2049; home(0, 0) = 0; home(0, 11) = 0
            unbind(0, 0) = 1; unbind(0, 11) = 1; home(0, 0) = 3; home(0, 11) = 3
            bindConstant(0, 11, 4) = 1; bindLink(0, 0, 11) = 1; get(0, 0) = CONSTANT + 4
            unbind(0, 0) = 1; unbind(0, 11) = 1
            bindClass(0, 0, NONE) = 0; bindClass(0, 11, NONE) = 0
            get(0, 0) = 1; get(0, 11) = 2
            """);
        Run all = run("child(0) = 1; child(1) = 2");
        for (int injector = 0; injector < 3; injector++) {
            all.go(forKeys("bindConstant(" + injector + ", #, " + injector + "#) = 1"));
        }
        all.go("count(2) = 36");
        for (int injector = 0; injector < 3; injector++) {
            all.go(forKeys("get(" + injector + ", #) = CONSTANT + " + injector + "#"));
            all.go(forKeys("home(" + injector + ", #) = " + injector));
        }
        run(refused("need(#, plain)", BAD_KEYS) + refused("need(#, lazy)", BAD_KEYS));
        run(refused("bindConstant(0, #, 1)", BAD_KEYS) + refused("bindLink(0, #, 1)", BAD_KEYS)
                + refused("bindLink(0, 1, #)", BAD_KEYS) + refused("bindClass(0, #, 0)", BAD_KEYS));
        run(BUSY + refused("unbind(0, #)", BAD_KEYS) + refused("get(0, #)", BAD_KEYS)
                + refused("reach(0, #)", BAD_KEYS) + refused("home(0, #)", BAD_KEYS));
    }

    private static void threeInjectors() {
        sentence("Terms", "0 is the root, and every other one (at most 3 in all) ..");
        run("""
            count(0) = 1; home(0, 0) = 3; home(1, 0) = REFUSED
            child(0) = 1; count(0) = 2; home(1, 0) = 3; home(2, 0) = REFUSED
            child(0) = 2; count(0) = 3; home(2, 0) = 3; home(3, 0) = REFUSED
            child(0) = REFUSED; child(1) = REFUSED; child(2) = REFUSED
            count(0) = 3; home(3, 0) = REFUSED; get(3, 0) = REFUSED
            """);
    }

    private static void parentMadeBefore() {
        sentence("Terms", ".. has a parent made before it.");
        run("""
            child(1) = REFUSED; child(2) = REFUSED; count(0) = 1
            child(0) = 1; child(2) = REFUSED; child(3) = REFUSED; count(0) = 2
            child(1) = 2; bindConstant(0, 0, 5) = 1; bindConstant(1, 1, 6) = 1
            home(1, 0) = 0; home(2, 0) = 0; home(2, 1) = 1; home(0, 1) = 3
            """);
    }

    private static void oneBinding() {
        sentence("Terms", "An injector has at most one BINDING for a key ..");
        String all = """
            bindConstant(0, 4, 2) = REFUSED; bindLink(0, 4, 5) = REFUSED
            bindClass(0, 4, SINGLE) = REFUSED; count(2) = 1
            bindConstant(1, 4, 3) = 1; bindConstant(0, 3, 3) = 1; count(2) = 3
            """;
        run("child(0) = 1; bindConstant(0, 4, 1) = 1;" + all + "get(0, 4) = CONSTANT + 1");
        run("child(0) = 1; bindLink(0, 4, 6) = 1;" + all + "reach(0, 4) = 80; get(0, 4) = MISSING");
        run("child(0) = 1; bind(0, 4, NONE, ~7);" + all
                + "get(0, 4) = 0; about(0, 2) = 1; about(0, 3) = 0");
    }

    private static void noBindingAtFirst() {
        sentence("Terms", ".. none at first ..");
        run("count(2) = 0; child(0) = 1; child(1) = 2; count(2) = 0\n" + forKeys("home(0, #) = 3")
                + forKeys("home(1, #) = 3") + forKeys("home(2, #) = 3")
                + forKeys("get(2, #) = MISSING") + forKeys("unbind(0, #) = REFUSED"));
    }

    private static void needs0To4() {
        sentence("Terms", ".. or a CLASS with a scope and 0 to 4 NEEDS, in order, each a key, "
                + "PLAIN or LAZY.");
        run("""
            bindClass(0, 0, NONE) = 0; get(0, 0) = 0; about(0, 2) = 0; held(0, 0) = REFUSED
            need(3, lazy) = 1; bindClass(0, 1, NONE) = 1; get(0, 1) = 1; about(1, 2) = 1
            held(1, 0) = HANDLE + 3; held(1, 1) = REFUSED
            bindConstant(0, 2, 8) = 1
            need(11, lazy) = 1; need(2, plain) = 2; need(2, lazy) = 3; need(0, plain) = 4
            need(0, plain) = REFUSED; bindClass(0, 3, NONE) = 4
            get(0, 3) = 3; about(3, 2) = 4; held(3, 0) = HANDLE + 11; held(3, 1) = CONSTANT + 8
            held(3, 2) = HANDLE + 2; held(3, 3) = 2; held(3, 4) = REFUSED
            """);
        run("""
            bindConstant(0, 0, 1)
            4 * need(0, plain) = 4; bindClass(0, 1, NONE) = 4; get(0, 1) = 0
            held(0, 0) = CONSTANT + 1; held(0, 3) = CONSTANT + 1
            4 * need(0, lazy) = 4; bindClass(0, 2, NONE) = 4; get(0, 2) = 1
            held(1, 0) = HANDLE + 0; held(1, 3) = HANDLE + 0
            """);
    }

    private static void scopes0To2() {
        sentence("Terms", "Scopes: 0 NONE, 1 SINGLE, 2 REQUEST.");
        run("""
            bindClass(0, 0, 0) = 0; bindClass(0, 1, 1) = 0; bindClass(0, 2, 2) = 0; open() = 1
            get(0, 0) = 0; get(0, 0) = 1; get(0, 1) = 2; get(0, 1) = 2; get(0, 2) = 3; get(0, 2) = 3
            about(0, 3) = 0; about(2, 3) = 1; about(3, 3) = 2; count(3) = 1; count(4) = 1
            close() = 1; get(0, 0) = 4; get(0, 1) = 2; get(0, 2) = OUTSIDE
            """);
        run(refused("bindClass(0, 3, #)", BAD_SCOPES) + "count(2) = 0");
    }

    private static void requestAtFirstNot() {
        sentence("Terms", "A REQUEST is open or not, at first not.");
        run("""
            count(5) = 0; close() = REFUSED; bind(0, 0, REQUEST); get(0, 0) = OUTSIDE
            open() = 1; count(5) = 1; get(0, 0) = 0; close() = 1; count(5) = 0
            """);
    }

    private static void seenOwnOrParents() {
        sentence("Terms", "The binding SEEN from an injector for a key is its own one, or else the "
                + "one seen from its parent ..");
        run("""
            child(0) = 1; child(1) = 2
            bindConstant(0, 0, 10); get(2, 0) = CONSTANT + 10
            bindConstant(1, 0, 11); get(2, 0) = CONSTANT + 11; get(1, 0) = CONSTANT + 11
            bindConstant(2, 0, 12); get(2, 0) = CONSTANT + 12; get(1, 0) = CONSTANT + 11
            get(0, 0) = CONSTANT + 10
            unbind(1, 0); get(1, 0) = CONSTANT + 10; get(2, 0) = CONSTANT + 12
            unbind(2, 0); get(2, 0) = CONSTANT + 10; unbind(0, 0); get(2, 0) = MISSING
            """);
        run("""
            child(0) = 1; child(0) = 2
            bindConstant(1, 0, 11); get(2, 0) = MISSING; get(0, 0) = MISSING
            bindConstant(2, 1, 12); get(1, 1) = MISSING; get(0, 1) = MISSING
            bindConstant(0, 0, 10); get(2, 0) = CONSTANT + 10; get(1, 0) = CONSTANT + 11
            """);
    }

    private static void livesWhereItIs() {
        sentence("Terms", ".. it LIVES in the injector that has it.");
        run("""
            child(0) = 1; child(1) = 2
            bind(0, 0, NONE); bind(1, 1, NONE); bind(2, 2, NONE)
            get(2, 0) = 0; get(2, 1) = 1; get(2, 2) = 2
            about(0, 1) = 0; about(1, 1) = 1; about(2, 1) = 2
            home(2, 0) = 0; home(2, 1) = 1; home(2, 2) = 2; home(1, 2) = 3
            """);
    }

    private static void instancesNumberedAsMade() {
        sentence("Terms", "VALUES are longs: INSTANCES of classes, numbered 0, 1, .. as they are "
                + "made, are their numbers ..");
        run("""
            bind(0, 0, NONE); bind(0, 1, NONE, 0, 0); bind(0, 2, NONE, 1, 0, 1)
            get(0, 2) = 7; about(0, 0) = 0; about(1, 0) = 0; about(2, 0) = 1; about(3, 0) = 0
            about(4, 0) = 0; about(5, 0) = 0; about(6, 0) = 1; about(7, 0) = 2
            about(8, 0) = REFUSED
            held(2, 0) = 0; held(2, 1) = 1; held(7, 0) = 2; held(7, 1) = 3; held(7, 2) = 6
            """);
        Run all = run("bind(0, 0, NONE)");
        for (int i = 0; i < 100; i++) {
            all.go("get(0, 0) = " + i);
        }
    }

    private static void constantsOfAllInts() {
        sentence("Terms", ".. the constant c is CONSTANT + c ..");
        run("""
            bindConstant(0, 0, MIN); get(0, 0) = 7852516352
            bindConstant(0, 1, MAX); get(0, 1) = 12147483647
            bindConstant(0, 2, -1); get(0, 2) = 9999999999
            bindConstant(0, 3, 0); get(0, 3) = 10000000000
            bindConstant(0, 4, -5); get(0, 4) = 9999999995
            bind(0, 5, SINGLE, 0, 1, 2, 4); get(0, 5) = 0
            held(0, 0) = 7852516352; held(0, 1) = 12147483647; held(0, 2) = 9999999999
            ask(0, 0) = 7852516352; ask(0, 3) = 9999999995
            bindLink(0, 6, 0); get(0, 6) = 7852516352; broken(0) = 12
            """);
    }

    private static void handlesOfAllPairs() {
        sentence("Terms", ".. the HANDLE of a key in an injector is HANDLE + 16 * injector + key.");
        run("""
            child(0) = 1; child(1) = 2
            bind(0, 0, NONE, ~0, ~11); bind(1, 1, NONE, ~0, ~11); bind(2, 2, NONE, ~0, ~11)
            get(2, 0) = 0; get(2, 1) = 1; get(2, 2) = 2
            held(0, 0) = 20000000000; held(0, 1) = 20000000011
            held(1, 0) = 20000000016; held(1, 1) = 20000000027
            held(2, 0) = 20000000032; held(2, 1) = 20000000043
            """);
    }

    private static void instancesStay() {
        sentence("Terms", "Instances made stay for ever, whatever happens to bindings and "
                + "requests.");
        String stays = """
            count(1) = 3; about(0, 0) = 1; about(0, 1) = 0; about(0, 2) = 2; about(0, 3) = 1
            held(0, 0) = CONSTANT + 5; held(0, 1) = HANDLE + 2; ask(0, 0) = CONSTANT + 5
            about(1, 0) = 2; about(1, 1) = 1; about(1, 2) = 1; about(1, 3) = 2; held(1, 0) = 0
            about(2, 0) = 3; about(2, 2) = 0; about(2, 3) = 0
            """;
        run("""
            child(0) = 1; open() = 1; bindConstant(0, 0, 5)
            bind(0, 1, SINGLE, 0, ~2); bind(1, 2, REQUEST, 1); bind(1, 3, NONE)
            get(1, 1) = 0; get(1, 2) = 1; get(1, 3) = 2
            """ + stays + "close() = 1\n" + stays + "open() = 1\n" + stays
            + "unbind(0, 0); unbind(0, 1); unbind(1, 2); unbind(1, 3)\n" + stays
            + "bindLink(0, 1, 5); bindConstant(1, 2, 9); bind(1, 3, SINGLE, ~4)\n" + stays
            + "get(1, 3) = 3; count(1) = 4; ask(0, 1) = MISSING; bindConstant(0, 2, 6)\n"
            + "ask(0, 1) = CONSTANT + 6");
    }

    private static void refusedChangeNothing() {
        sentence("Terms", "Refused calls answer REFUSED and change nothing ..");
        changesNothing(NEW, """
            child(1) = REFUSED; child(-1) = REFUSED; need(12, plain) = REFUSED
            bindConstant(1, 0, 1) = REFUSED; bindConstant(0, 12, 1) = REFUSED
            bindLink(0, 0, 12) = REFUSED; bindLink(1, 0, 0) = REFUSED; bindLink(0, 12, 0) = REFUSED
            bindClass(0, 0, 3) = REFUSED; bindClass(0, 12, 0) = REFUSED; unbind(0, 0) = REFUSED
            close() = REFUSED; get(1, 0) = REFUSED; get(0, 12) = REFUSED; ask(0, 0) = REFUSED
            held(0, 0) = REFUSED; about(0, 0) = REFUSED; broken(1) = REFUSED; reach(1, 0) = REFUSED
            reach(0, 12) = REFUSED; home(1, 0) = REFUSED; home(0, 12) = REFUSED; count(6) = REFUSED
            """);
        changesNothing(BUSY, """
            child(2) = REFUSED; child(-1) = REFUSED; need(12, plain) = REFUSED
            need(-1, lazy) = REFUSED
            bindConstant(0, 0, 8) = REFUSED; bindConstant(2, 0, 8) = REFUSED
            bindConstant(0, 7, 8) = REFUSED; bindLink(0, 0, 1) = REFUSED
            bindLink(0, 8, 12) = REFUSED
            bindLink(0, 2, 0) = REFUSED; bindClass(0, 2, NONE) = REFUSED
            bindClass(1, 3, 2) = REFUSED
            bindClass(0, 8, 3) = REFUSED; bindClass(2, 8, 0) = REFUSED; unbind(1, 2) = REFUSED
            unbind(0, 8) = REFUSED; unbind(0, 12) = REFUSED; unbind(2, 0) = REFUSED
            open() = REFUSED
            get(2, 7) = REFUSED; get(0, 12) = REFUSED; ask(3, 0) = REFUSED; ask(0, 2) = REFUSED
            held(3, 0) = REFUSED; about(0, 4) = REFUSED; broken(2) = REFUSED; reach(2, 0) = REFUSED
            home(2, 0) = REFUSED; count(-1) = REFUSED
            """);
        changesNothing(FULL_UP, """
            child(0) = REFUSED; child(2) = REFUSED; need(5, plain) = REFUSED
            need(5, lazy) = REFUSED
            bindClass(0, 0, SINGLE) = REFUSED; bindClass(2, 3, NONE) = REFUSED
            bindClass(2, 4, 2) = REFUSED; bindClass(3, 3, 0) = REFUSED; open() = REFUSED
            ask(100, 0) = REFUSED; ask(1, 1) = REFUSED; held(100, 0) = REFUSED
            about(100, 0) = REFUSED; get(3, 0) = REFUSED; unbind(3, 0) = REFUSED
            """);
        changesNothing(BUSY + "close() = 1", "close() = REFUSED");
    }

    private static void outOfRangeBeforeAllElse() {
        sentence("Terms", ".. numbers out of range are REFUSED before all else.");
        // In this state the same calls with numbers in range are FULL, MISSING or REFUSED anyhow.
        run(FULL_UP + "get(0, 0) = FULL; get(2, 11) = MISSING; get(2, 5) = MISSING\n"
                + refused("get(#, 0)", BAD_INJECTORS) + refused("get(#, 11)", BAD_INJECTORS)
                + refused("get(0, #)", BAD_KEYS) + refused("get(2, #)", BAD_KEYS)
                + "get(-1, 12) = REFUSED; get(-1, 24) = REFUSED; get(3, -1) = REFUSED");
        run(FULL_UP + "ask(1, 0) = FULL\n" + refused("ask(1, #)", BAD_NEEDS)
                + refused("ask(#, 0)", BAD_INSTANCES) + refused("held(#, 0)", BAD_INSTANCES)
                + refused("about(#, 0)", BAD_INSTANCES) + refused("about(#, 9)", BAD_INSTANCES));
        run(FULL_UP + refused("need(#, lazy)", BAD_KEYS) + refused("child(#)", BAD_INJECTORS)
                + refused("bindLink(0, 0, #)", BAD_KEYS) + refused("bindLink(1, 0, #)", BAD_KEYS)
                + refused("bindClass(0, 0, #)", BAD_SCOPES)
                + refused("bindClass(1, 0, #)", BAD_SCOPES));
        run(FULL_UP + "home(0, 11) = 3\n" + refused("home(#, 11)", BAD_INJECTORS)
                + refused("home(0, #)", BAD_KEYS) + "reach(0, 11) = 2048\n"
                + refused("reach(#, 11)", BAD_INJECTORS) + refused("reach(0, #)", BAD_KEYS)
                + refused("broken(#)", BAD_INJECTORS));
    }

    // Terms: getting

    private static void missing() {
        sentence("Terms", "no binding is seen: MISSING.");
        run(forKeys("get(0, #) = MISSING"));
        run("""
            child(0) = 1; child(1) = 2
            get(2, 0) = MISSING; bindConstant(2, 0, 1); get(1, 0) = MISSING; get(0, 0) = MISSING
            bindLink(0, 1, 0); get(0, 1) = MISSING; get(2, 1) = MISSING
            bind(0, 2, NONE, 0); get(2, 2) = MISSING; unbind(2, 0); get(2, 0) = MISSING
            """);
        run(FULL_UP + "get(2, 11) = MISSING; close() = 1; get(2, 11) = MISSING");
    }

    private static void constantIsThat() {
        sentence("Terms", "A constant: that.");
        run(FULL_UP + "bindConstant(2, 6, 1); get(2, 6) = CONSTANT + 1; get(2, 6) = CONSTANT + 1");
        // A pair with a constant is never worked on, so that it may be come to again and again.
        run("""
            bindConstant(0, 0, 1); bindLink(0, 1, 0); bind(0, 2, NONE, 0, 1, 0, 1); get(0, 2) = 0
            held(0, 0) = CONSTANT + 1; held(0, 3) = CONSTANT + 1; count(1) = 1; count(3) = 0
            """);
    }

    private static void keptIsThat() {
        sentence("Terms", "If it is a class and an instance of the binding is kept (by SINGLE if "
                + "that is its scope; ..): that.");
        run("""
            child(0) = 1; bindConstant(0, 0, 1); bind(0, 1, SINGLE, 0); get(1, 1) = 0
            get(0, 1) = 0; get(1, 1) = 0; unbind(0, 0); get(0, 1) = 0; get(1, 1) = 0
            bindLink(0, 0, 1); get(0, 1) = 0; get(0, 0) = 0
            bind(1, 1, SINGLE); get(1, 1) = 1; get(0, 1) = 0; count(1) = 2
            """);
        run(FULL_UP + "get(2, 3) = 0; get(2, 4) = 1; bindLink(2, 6, 3); get(2, 6) = 0");
        // An instance that is kept ends a circle that would not have ended before.
        run("""
            bindConstant(0, 0, 1); bind(0, 1, SINGLE, 0); get(0, 1) = 0; unbind(0, 0)
            bind(0, 0, NONE, 1); get(0, 0) = 1; held(1, 0) = 0; unbind(0, 1); bind(0, 1, SINGLE, 0)
            get(0, 0) = CIRCULAR
            """);
    }

    private static void keptByRequestOnlyWhileOpen() {
        sentence("Terms", ".. (..; by REQUEST if that is its scope and a request is open): that.");
        run("""
            bindConstant(0, 0, 1); bind(0, 1, REQUEST, 0); open(); get(0, 1) = 0; get(0, 1) = 0
            unbind(0, 0); get(0, 1) = 0; close() = 1; get(0, 1) = OUTSIDE
            open(); get(0, 1) = MISSING; bindConstant(0, 0, 2); get(0, 1) = 1; get(0, 1) = 1
            held(1, 0) = CONSTANT + 2; close() = 1; open(); get(0, 1) = 2
            """);
    }

    private static void workedOnIsCircular() {
        sentence("Terms", "The pair (J, key) is being worked on already: CIRCULAR.");
        run("""
            bindLink(0, 0, 0); get(0, 0) = CIRCULAR; bind(0, 1, NONE, 1); get(0, 1) = CIRCULAR
            bind(0, 2, SINGLE, 2); get(0, 2) = CIRCULAR; bind(0, 3, REQUEST, 3); open()
            get(0, 3) = CIRCULAR; bind(0, 4, NONE, 5); bindLink(0, 5, 4)
            get(0, 4) = CIRCULAR; get(0, 5) = CIRCULAR; bind(0, 6, NONE, ~6); get(0, 6) = 0
            """);
        // The longest circle of one injector.
        Run links = new Run();
        for (int key = 0; key < 12; key++) {
            links.go("bindLink(0, " + key + ", " + (key + 1) % 12 + ")");
        }
        links.go(forKeys("get(0, #) = CIRCULAR") + "unbind(0, 11); get(0, 0) = MISSING");
        links.go("bindConstant(0, 11, 4); get(0, 0) = CONSTANT + 4");
        // The same key in another injector is another pair.
        run("""
            child(0) = 1; child(1) = 2; bindLink(2, 0, 1); bindLink(1, 1, 0); bindLink(1, 0, 2)
            bind(0, 2, NONE, 1); bindLink(0, 1, 0); bindConstant(0, 0, 3)
            get(2, 0) = 0; held(0, 0) = CONSTANT + 3; unbind(0, 0); bindLink(0, 0, 2)
            get(2, 0) = CIRCULAR
            """);
        // The second coming is the error already, before any more instances would be FULL.
        run("""
            bind(0, 0, NONE); bind(0, 1, NONE, 0, 1); 99 * get(0, 0) = 98; get(0, 1) = CIRCULAR
            count(1) = 99; get(0, 0) = 99; get(0, 1) = FULL
            """);
        // Come to from a child, the pair is still the one where the binding lives.
        run("child(0) = 1; bindLink(0, 0, 1); bindLink(0, 1, 0); get(1, 0) = CIRCULAR");
    }

    private static void workedOnUntilItEnds() {
        sentence("Terms", "From here on until this getting of the pair ends it is being worked "
                + "on.");
        run("""
            bind(0, 0, NONE); bindLink(0, 1, 0); bind(0, 2, NONE, 1, 0, 1, 0); get(0, 2) = 4
            bind(0, 3, NONE, 2, 2); get(0, 3) = 15; get(0, 3) = 26
            """);
        // Ended by an error, too.
        run("""
            bindLink(0, 0, 1); bind(0, 2, SINGLE, 0); get(0, 2) = MISSING; get(0, 0) = MISSING
            bindLink(0, 1, 2); get(0, 2) = CIRCULAR; get(0, 0) = CIRCULAR; get(0, 1) = CIRCULAR
            unbind(0, 1); bind(0, 1, REQUEST); get(0, 2) = OUTSIDE; get(0, 0) = OUTSIDE
            broken(0) = 0; open(); get(0, 2) = 1; get(0, 0) = 0; held(1, 0) = 0
            """);
        run(FULL_UP + "get(2, 2) = FULL; get(2, 1) = FULL; get(2, 2) = FULL; broken(2) = 0");
    }

    private static void linkInItsInjector() {
        sentence("Terms", "A link: the value of getting its key in J.");
        run("""
            child(0) = 1; child(1) = 2; bindLink(0, 0, 1); bindConstant(2, 1, 12)
            get(2, 0) = MISSING
            bindConstant(1, 1, 11); get(2, 0) = MISSING; bindConstant(0, 1, 10)
            get(2, 0) = CONSTANT + 10; get(1, 0) = CONSTANT + 10; bindLink(1, 0, 1)
            get(2, 0) = CONSTANT + 11; get(0, 0) = CONSTANT + 10
            bindLink(0, 2, 3); bind(0, 3, SINGLE); get(2, 2) = 0; get(2, 3) = 0; about(0, 0) = 3
            bindLink(0, 4, 5); bind(0, 5, NONE); get(0, 4) = 1; get(0, 4) = 2; count(3) = 1
            """);
        longestWay("bindLink(%d, %d, %d)").go("""
            get(2, 0) = MISSING; bindLink(0, 9, 10); get(2, 0) = CIRCULAR; unbind(0, 9)
            bindConstant(0, 9, 5); get(2, 0) = CONSTANT + 5; broken(2) = 12
            """);
    }

    private static void outsideBeforeNeeds() {
        sentence("Terms", "A class: if its scope is REQUEST and no request is open: OUTSIDE.");
        run("""
            bind(0, 0, REQUEST, 11); get(0, 0) = OUTSIDE; bind(0, 1, REQUEST, 1)
            get(0, 1) = OUTSIDE
            open(); get(0, 0) = MISSING; get(0, 1) = CIRCULAR; close() = 0; get(0, 0) = OUTSIDE
            bind(0, 2, NONE); bind(0, 3, SINGLE); get(0, 2) = 0; get(0, 3) = 1
            bindLink(0, 4, 1); get(0, 4) = OUTSIDE
            """);
        run(FULL_UP + "close() = 1; get(2, 4) = OUTSIDE; open(); get(2, 4) = FULL");
    }

    private static void needsInOrder() {
        sentence("Terms", "Else its needs are got, in order ..");
        run("""
            bind(0, 0, NONE); bind(0, 1, NONE); bind(0, 2, NONE); bind(0, 3, NONE)
            bind(0, 4, NONE, 3, 1, 2, 0); get(0, 4) = 4
            about(0, 0) = 3; about(1, 0) = 1; about(2, 0) = 2; about(3, 0) = 0
            held(4, 0) = 0; held(4, 1) = 1; held(4, 2) = 2; held(4, 3) = 3
            bind(0, 5, SINGLE); bind(0, 6, NONE, 0, 5, 5, 0); get(0, 6) = 8
            held(8, 0) = 5; held(8, 1) = 6; held(8, 2) = 6; held(8, 3) = 7
            """);
    }

    private static void lazyWhetherBoundOrNot() {
        sentence("Terms", ".. for a LAZY one the value is the handle of the key in J (whether it "
                + "is bound or not) ..");
        run("""
            child(0) = 1; bind(0, 0, NONE, ~1, ~2, ~3, ~0); bindConstant(0, 2, 5); bindLink(0, 3, 3)
            get(1, 0) = 0; count(1) = 1
            held(0, 0) = HANDLE + 1; held(0, 1) = HANDLE + 2; held(0, 2) = HANDLE + 3
            held(0, 3) = HANDLE + 0
            bind(1, 5, SINGLE, ~5, ~6); bind(1, 6, REQUEST); get(1, 5) = 1; count(1) = 2
            held(1, 0) = HANDLE + 21; held(1, 1) = HANDLE + 22; bind(0, 7, NONE)
            bind(0, 8, NONE, ~7)
            get(0, 8) = 2; count(1) = 3
            """);
    }

    private static void plainInItsInjector() {
        sentence("Terms", ".. for a PLAIN one the value of getting its key in J ..");
        run("""
            child(0) = 1; child(1) = 2; bind(1, 0, NONE, 1); bindConstant(2, 1, 12)
            get(2, 0) = MISSING; bindConstant(0, 1, 10); get(2, 0) = 0; held(0, 0) = CONSTANT + 10
            bindConstant(1, 1, 11); get(2, 0) = 1; held(1, 0) = CONSTANT + 11
            held(0, 0) = CONSTANT + 10
            """);
        longestWay("bind(%d, %d, SINGLE, %d)").go("""
            get(2, 0) = MISSING; bind(0, 9, NONE, 10); get(2, 0) = CIRCULAR; unbind(0, 9)
            bind(0, 9, NONE); get(2, 0) = 33; count(1) = 34; count(3) = 33; held(33, 0) = 32
            held(1, 0) = 0; about(0, 0) = 9; about(33, 1) = 2; broken(2) = 12
            """);
    }

    private static void errorEndsAll() {
        sentence("Terms", ".. an error ends all with that error.");
        run("""
            bindLink(0, 0, 0); bind(0, 1, REQUEST); bindConstant(0, 2, 1)
            bind(0, 3, NONE, 2, 11, 0, 1); get(0, 3) = MISSING
            bind(0, 4, NONE, 2, 0, 1, 11); get(0, 4) = CIRCULAR
            bind(0, 5, NONE, 2, 1, 11, 0); get(0, 5) = OUTSIDE
            bind(0, 6, NONE, ~11, ~0, ~1, 11); get(0, 6) = MISSING
            bind(0, 7, SINGLE, 2, 2, 2, 0); get(0, 7) = CIRCULAR
            bindLink(0, 8, 5); bind(0, 9, NONE, 8, 3); get(0, 9) = OUTSIDE
            bind(0, 10, NONE, 3, 8); get(0, 10) = MISSING; count(1) = 0
            """);
        run(FULL_UP + "drop(); bind(2, 7, NONE, 3, 0, 11); get(2, 7) = FULL; get(2, 5) = MISSING");
    }

    private static void fullAt100() {
        sentence("Terms", "Then, if 100 instances have been made: FULL ..");
        run("""
            bind(0, 0, NONE); bind(0, 1, SINGLE); bind(0, 2, REQUEST); bind(0, 3, NONE, 0); open()
            98 * get(0, 0) = 97; get(0, 3) = 99; get(0, 0) = FULL; get(0, 1) = FULL
            get(0, 2) = FULL; get(0, 3) = FULL; count(1) = 100; about(99, 0) = 3; held(99, 0) = 98
            about(100, 0) = REFUSED; count(3) = 0; count(4) = 0; broken(0) = 0
            """);
        run("""
            bind(0, 0, NONE); bind(0, 1, SINGLE); bind(0, 3, NONE, 0); 99 * get(0, 0) = 98
            get(0, 3) = FULL; count(1) = 99; get(0, 1) = 99; count(1) = 100; get(0, 1) = 99
            get(0, 3) = FULL; get(0, 0) = FULL; unbind(0, 1); unbind(0, 0); bind(0, 1, SINGLE)
            get(0, 1) = FULL; count(1) = 100
            """);
        // A getting that would make more than 100 on its own: 1 + 4 + 16 + 64 + 256.
        run("""
            bind(0, 0, NONE); bind(0, 1, NONE, 0, 0, 0, 0); bind(0, 2, NONE, 1, 1, 1, 1)
            bind(0, 3, NONE, 2, 2, 2, 2); bind(0, 4, NONE, 3, 3, 3, 3); get(0, 4) = FULL
            count(1) = 0; get(0, 3) = 84; get(0, 3) = FULL; count(1) = 85; 3 * get(0, 1) = 99
            """);
    }

    private static void fullAfterNeeds() {
        sentence("Terms", ".. an error ends all with that error. Then, if 100 instances have been "
                + "made: FULL ..");
        run(FULL_UP + """
            drop() = 4; bind(2, 6, NONE, 11); get(2, 6) = MISSING; bind(2, 7, NONE, 7)
            get(2, 7) = CIRCULAR; bind(2, 8, NONE, 4); get(2, 8) = FULL; close() = 1
            get(2, 8) = OUTSIDE; bind(2, 9, NONE, 3, ~11); get(2, 9) = FULL
            """);
    }

    private static void madeWithKeyInjectorValues() {
        sentence("Terms", ".. else a new instance is made with the binding's key, J, and the "
                + "values of its needs ..");
        run("""
            child(0) = 1; child(1) = 2; bindConstant(0, 0, 4); bind(1, 11, SINGLE, ~11, 0)
            bindLink(2, 10, 11); get(2, 10) = 0; about(0, 0) = 11; about(0, 1) = 1; about(0, 2) = 2
            held(0, 0) = HANDLE + 27; held(0, 1) = CONSTANT + 4
            bind(2, 0, NONE, 10); get(2, 0) = 1; about(1, 0) = 0; about(1, 1) = 2; held(1, 0) = 0
            """);
        // The values of one instance are apart from those of another with its key made meanwhile.
        run("""
            child(0) = 1; bindConstant(0, 5, 5); bindConstant(0, 6, 6); bind(0, 0, NONE, 6, 6)
            bind(0, 2, NONE, 0); bind(1, 0, NONE, 5, 2, 5); get(1, 0) = 2; held(2, 0) = CONSTANT + 5
            held(2, 1) = 1; held(2, 2) = CONSTANT + 5; held(1, 0) = 0; held(0, 0) = CONSTANT + 6
            held(0, 1) = CONSTANT + 6; held(0, 2) = REFUSED
            """);
        run("""
            bindConstant(0, 1, 0); bind(0, 0, NONE, 1); 99 * get(0, 0) = 98; unbind(0, 1)
            bindConstant(0, 1, 9); get(0, 0) = 99; held(99, 0) = CONSTANT + 9
            held(98, 0) = CONSTANT + 0; about(99, 0) = 0; about(99, 1) = 0; about(99, 2) = 1
            """);
    }

    private static void keptByItsScope() {
        sentence("Terms", ".. and it is kept by SINGLE, or by REQUEST for the open request.");
        run("""
            bind(0, 0, NONE); bind(0, 1, SINGLE, 0); bind(0, 2, REQUEST, 1); open(); get(0, 2) = 2
            count(3) = 1; count(4) = 1; get(0, 0) = 3; get(0, 1) = 1; get(0, 2) = 2; close() = 1
            count(3) = 1; count(4) = 0; get(0, 1) = 1; open(); count(4) = 0; get(0, 2) = 4
            held(4, 0) = 1; count(4) = 1
            """);
        // All twelve keys of all three injectors can be kept at once.
        StringBuilder most = new StringBuilder("child(0); child(1); open()\n");
        for (int injector = 0; injector < 3; injector++) {
            most.append(forKeys("bindClass(" + injector + ", #, " + (1 + injector % 2) + ") = 0"));
            most.append(forKeys("get(" + injector + ", #)"));
        }
        run(most + "count(1) = 36; count(3) = 24; count(4) = 12; get(2, 11) = 35; get(1, 11) = 23\n"
                + "get(0, 0) = 0; close() = 12; count(3) = 24; count(4) = 0");
    }

    private static void errorLeavesAll() {
        sentence("Terms", "A getting from outside that ends with an error leaves everything as it "
                + "was: instances made on the way are not made, nothing is kept ..");
        String classes = BUSY + """
            drop(); bind(1, 8, REQUEST, 7); bind(1, 9, NONE, 7, 8, 4)
            """;
        changesNothing(classes + "bind(1, 10, SINGLE, 9, 11)", "get(1, 10) = MISSING");
        changesNothing(classes + "bind(1, 10, SINGLE, 9, 6)", "get(1, 10) = CIRCULAR");
        changesNothing(classes + "bind(1, 10, SINGLE, 9, 10)", "get(1, 10) = CIRCULAR");
        changesNothing(classes + "bind(1, 10, SINGLE, ~1, ~2); bind(1, 11, NONE, 9, 5)",
                "get(1, 11) = MISSING");
        changesNothing("""
            bind(0, 0, SINGLE); bind(0, 1, REQUEST); bind(0, 2, NONE, 0, 1); need(3, lazy)
            """, "get(0, 2) = OUTSIDE; get(0, 1) = OUTSIDE");
        changesNothing("""
            bind(0, 0, SINGLE); bind(0, 1, REQUEST); bind(0, 2, NONE); bind(0, 3, SINGLE, 0, 1, 2)
            open(); 97 * get(0, 2) = 96; need(3, lazy)
            """, "get(0, 3) = FULL");
        // From outside by ask, too.
        changesNothing(classes
                + "bind(1, 10, NONE, ~11); bind(1, 11, SINGLE, 9, 6); get(1, 10) = 3",
                "ask(3, 0) = CIRCULAR");
        run("""
            bind(0, 0, SINGLE); bind(0, 1, REQUEST); bind(0, 2, NONE, 0, 1, 11); open()
            get(0, 2) = MISSING; count(1) = 0; count(3) = 0; count(4) = 0; close() = 0
            about(0, 0) = REFUSED; held(0, 0) = REFUSED
            """);
        // What was kept before stays.
        run("""
            bind(0, 0, SINGLE); bind(0, 1, REQUEST); bind(0, 2, NONE, 0, 1, 11); open()
            get(0, 0) = 0; get(0, 1) = 1; get(0, 2) = MISSING; count(3) = 1; count(4) = 1
            get(0, 0) = 0; get(0, 1) = 1; close() = 1
            """);
    }

    private static void errorGivesNumbersAnew() {
        sentence("Terms", ".. and their numbers are given anew.");
        run("""
            bind(0, 0, SINGLE); bind(0, 1, NONE, 0, ~3); bind(0, 2, NONE, 1, 1, 11)
            bind(0, 3, NONE)
            get(0, 3) = 0; get(0, 2) = MISSING; get(0, 3) = 1; about(1, 0) = 3; about(1, 2) = 0
            get(0, 2) = MISSING; get(0, 1) = 3; about(2, 0) = 0; about(3, 0) = 1; held(3, 0) = 2
            """);
        // Errors never use the hundred up.
        run("""
            bind(0, 0, NONE); bind(0, 1, NONE, 0, 0, 0, 0); bind(0, 2, NONE, 1, 1, 1, 11)
            200 * get(0, 2) = MISSING; count(1) = 0; 100 * get(0, 0) = 99; get(0, 0) = FULL
            """);
    }

    // Promise 1

    private static void newObject() {
        sentence("Promise 1", "makes an object in the state that the terms give.");
        run("""
            count(0) = 1; count(1) = 0; count(2) = 0; count(3) = 0; count(4) = 0; count(5) = 0
            drop() = 0; close() = REFUSED; about(0, 0) = REFUSED; held(0, 0) = REFUSED
            ask(0, 0) = REFUSED; broken(0) = 12; broken(1) = REFUSED; child(1) = REFUSED
            """ + forKeys("home(0, #) = 3") + forKeys("get(0, #) = MISSING"));
        // What is done to one object is not seen in one made before or after it.
        Run before = new Run();
        Run busy = run(BUSY);
        if (!before.picture().equals(new Run().picture()) || busy.calls == 0) {
            fail("objects made before and after another one are not the same");
        }
    }

    // Promise 2

    private static void childAnswersItsNumber() {
        sentence("Promise 2", "Makes an injector with this parent; answers its number.");
        run("""
            child(0) = 1; child(1) = 2; bindConstant(1, 0, 5); home(2, 0) = 1; home(0, 0) = 3
            """);
        run("""
            child(0) = 1; child(0) = 2; bindConstant(1, 0, 5); home(2, 0) = 3; home(1, 0) = 1
            """);
    }

    private static void childRefused() {
        sentence("Promise 2", "No such parent, or 3 are there: REFUSED.");
        run(refused("child(#)", BAD_INJECTORS) + refused("child(#)", 1, 2)
                + "count(0) = 1; child(0) = 1\n" + refused("child(#)", BAD_INJECTORS)
                + "child(2) = REFUSED; count(0) = 2; child(0) = 2\n" + refused("child(#)", 0, 1, 2)
                + refused("child(#)", BAD_INJECTORS) + "count(0) = 3");
    }

    // Promise 3

    private static void needAnswersHowManyThen() {
        sentence("Promise 3", "Adds a need to the buffer, which is empty at first; answers how "
                + "many it holds then.");
        run("""
            need(0, plain) = 1; need(0, lazy) = 2; need(11, lazy) = 3; need(0, plain) = 4
            drop() = 4
            need(5, lazy) = 1; bindClass(0, 0, NONE) = 1; need(5, plain) = 1; drop() = 1
            """);
        run("drop() = 0");
        run("bindClass(0, 0, NONE) = 0; get(0, 0) = 0; about(0, 2) = 0");
    }

    private static void needRefused() {
        sentence("Promise 3", "Key not 0 .. 11, or it holds 4: REFUSED.");
        run(refused("need(#, plain)", BAD_KEYS) + refused("need(#, lazy)", BAD_KEYS)
                + "drop() = 0");
        run("""
            need(0, lazy) = 1; need(1, lazy) = 2; need(2, lazy) = 3; need(12, lazy) = REFUSED
            need(-1, plain) = REFUSED; need(3, lazy) = 4; need(4, lazy) = REFUSED
            need(4, plain) = REFUSED; need(12, plain) = REFUSED; bindClass(0, 5, NONE) = 4
            get(0, 5) = 0; held(0, 0) = HANDLE + 0; held(0, 3) = HANDLE + 3; reach(0, 5) = 47
            need(4, lazy) = 1
            """);
    }

    // Promise 4

    private static void dropAnswersHowManyWereThere() {
        sentence("Promise 4", "Empties the buffer; answers how many needs it held.");
        Run run = new Run();
        for (int held = 0; held <= 4; held++) {
            for (int i = 0; i < held; i++) {
                run.go("need(" + (11 - i) + ", lazy) = " + (i + 1));
            }
            run.go("drop() = " + held + "; drop() = 0");
        }
        run.go("need(3, lazy) = 1; need(12, lazy) = REFUSED; drop() = 1");
        run.go("bindClass(0, 0, NONE) = 0; reach(0, 0) = 1; get(0, 0) = 0; about(0, 2) = 0");
        // The needs that a class has taken are no more in the buffer.
        run("4 * need(1, lazy) = 4; bindClass(0, 0, NONE) = 4; drop() = 0; get(0, 0) = 0\n"
                + "about(0, 2) = 4");
        run("4 * need(1, lazy) = 4; bindClass(0, 0, 3) = REFUSED; drop() = 4; drop() = 0");
    }

    // Promise 5

    private static void bindConstantAnswers1() {
        sentence("Promise 5", "Binds the key to the constant in the injector: 1.");
        run("""
            child(0) = 1; bindConstant(0, 0, 0) = 1; bindConstant(0, 11, -1) = 1
            bindConstant(1, 0, MIN) = 1; bindConstant(1, 11, MAX) = 1; count(2) = 4
            get(0, 0) = CONSTANT + 0; get(0, 11) = CONSTANT + -1; get(1, 0) = CONSTANT + MIN
            get(1, 11) = CONSTANT + MAX
            """);
        // The buffer's needs are for the next class.
        run("""
            need(1, lazy) = 1; bindConstant(0, 0, 1) = 1; reach(0, 0) = 1; need(2, lazy) = 2
            reach(0, 0) = 1; drop() = 2
            """);
    }

    private static void bindConstantRefused() {
        sentence("Promise 5", "No such injector or key, or it has a binding for it: REFUSED.");
        run(refused("bindConstant(0, #, 1)", BAD_KEYS)
                + refused("bindConstant(#, 0, 1)", BAD_INJECTORS)
                + refused("bindConstant(#, 0, 1)", 1, 2) + "count(2) = 0; child(0) = 1\n"
                + "bindConstant(2, 0, 1) = REFUSED; bindConstant(1, 0, 1) = 1; count(2) = 1");
        run("""
            bindConstant(0, 0, 1); bindLink(0, 1, 0); bind(0, 2, SINGLE); get(0, 2) = 0
            bindConstant(0, 0, 2) = REFUSED; bindConstant(0, 0, 1) = REFUSED
            bindConstant(0, 1, 2) = REFUSED; bindConstant(0, 2, 2) = REFUSED; count(2) = 3
            get(0, 0) = CONSTANT + 1; get(0, 1) = CONSTANT + 1; get(0, 2) = 0
            unbind(0, 0) = 1; bindConstant(0, 0, 2) = 1; get(0, 0) = CONSTANT + 2
            """);
    }

    // Promise 6

    private static void bindLinkAnswers1() {
        sentence("Promise 6", "Binds the key to a link to the target (0 .. 11) in the injector: "
                + "1.");
        run("""
            child(0) = 1; bindLink(0, 0, 11) = 1; bindLink(0, 11, 1) = 1; bindLink(1, 5, 0) = 1
            bindLink(1, 6, 6) = 1; count(2) = 4; get(1, 5) = MISSING; bindConstant(0, 1, 5)
            get(1, 5) = CONSTANT + 5; get(1, 6) = CIRCULAR; reach(1, 5) = 2083
            """);
        // The buffer's needs are for the next class.
        run("""
            need(1, lazy) = 1; bindLink(0, 0, 3) = 1; reach(0, 0) = 9; need(2, lazy) = 2
            reach(0, 0) = 9; drop() = 2
            """);
        Run all = new Run();
        for (int target = 0; target < 12; target++) {
            all.go("bindLink(0, 0, " + target + ") = 1; reach(0, 0) = " + (1 | 1 << target)
                    + "; unbind(0, 0) = 1");
        }
    }

    private static void bindLinkRefused() {
        sentence("Promise 6", "REFUSED as before.");
        run(refused("bindLink(0, #, 1)", BAD_KEYS) + refused("bindLink(#, 0, 1)", BAD_INJECTORS)
                + refused("bindLink(0, 0, #)", BAD_KEYS) + refused("bindLink(#, 0, 1)", 1, 2)
                + "count(2) = 0; child(0) = 1; bindLink(2, 0, 1) = REFUSED; bindLink(1, 0, 1) = 1");
        run("""
            bindConstant(0, 0, 1); bindLink(0, 1, 0); bind(0, 2, SINGLE); get(0, 2) = 0
            bindLink(0, 0, 2) = REFUSED; bindLink(0, 1, 2) = REFUSED; bindLink(0, 1, 0) = REFUSED
            bindLink(0, 2, 0) = REFUSED; count(2) = 3; get(0, 0) = CONSTANT + 1
            get(0, 1) = CONSTANT + 1; get(0, 2) = 0; unbind(0, 1) = 1; bindLink(0, 1, 2) = 1
            get(0, 1) = 0
            """);
    }

    // Promise 7

    private static void bindClassTakesTheBuffer() {
        sentence("Promise 7", "Binds the key to a class with the scope (0 .. 2) and the buffer's "
                + "needs, and empties the buffer; answers how many needs it has.");
        for (int needs = 0; needs <= 4; needs++) {
            Run run = run("child(0) = 1");
            for (int i = 0; i < needs; i++) {
                run.go("need(" + (i + 2) + ", lazy) = " + (i + 1));
            }
            run.go("bindClass(1, 11, " + needs % 3 + ") = " + needs + "; drop() = 0; open()");
            run.go("get(1, 11) = 0; about(0, 2) = " + needs + "; about(0, 3) = " + needs % 3);
            for (int i = 0; i < needs; i++) {
                run.go("held(0, " + i + ") = HANDLE + " + (18 + i));
            }
            run.go("held(0, " + needs + ") = REFUSED; bindClass(0, 0, NONE) = 0");
        }
        // The class keeps its needs, whatever the buffer holds later.
        run("""
            need(1, lazy); need(2, lazy); bindClass(0, 0, NONE) = 2; need(3, lazy) = 1; drop() = 1
            need(4, plain) = 1; bindClass(0, 5, NONE) = 1; get(0, 0) = 0; held(0, 0) = HANDLE + 1
            held(0, 1) = HANDLE + 2; held(0, 2) = REFUSED; reach(0, 0) = 7; reach(0, 5) = 48
            """);
    }

    private static void bindClassRefused() {
        sentence("Promise 7", "REFUSED as before; the buffer stays then.");
        String stays = """
            bindClass(0, 0, NONE) = 4; get(0, 0) = 0; held(0, 0) = HANDLE + 3
            held(0, 1) = HANDLE + 4
            held(0, 2) = HANDLE + 5; held(0, 3) = HANDLE + 6
            """;
        String four = "need(3, lazy); need(4, lazy); need(5, lazy); need(6, lazy)\n";
        run(four + refused("bindClass(0, #, 0)", BAD_KEYS) + "count(2) = 0\n" + stays);
        run(four + refused("bindClass(#, 0, 0)", BAD_INJECTORS)
                + refused("bindClass(#, 0, 0)", 1, 2) + "count(2) = 0\n" + stays);
        run(four + refused("bindClass(0, 0, #)", BAD_SCOPES) + "count(2) = 0\n" + stays);
        run("bindConstant(0, 1, 1); bindLink(0, 2, 1); bind(0, 7, SINGLE, ~8)\n" + four
                + refused("bindClass(0, #, 0)", 1, 2, 7) + refused("bindClass(0, #, 2)", 1, 2, 7)
                + "count(2) = 3; reach(0, 7) = 384\n" + stays);
        run("need(3, lazy); bindClass(0, 0, 3) = REFUSED; need(4, lazy) = 2; drop() = 2");
    }

    // Promise 8

    private static void unbindTakesTheKept() {
        sentence("Promise 8", "Takes the binding for the key from the injector, with the instances "
                + "that are kept for it: 1.");
        run("""
            bind(0, 0, SINGLE); bind(0, 1, SINGLE); bind(0, 2, REQUEST); bind(0, 3, REQUEST); open()
            get(0, 0) = 0; get(0, 1) = 1; get(0, 2) = 2; get(0, 3) = 3
            unbind(0, 0) = 1; count(3) = 1; count(4) = 2; unbind(0, 2) = 1; count(3) = 1
            count(4) = 1; count(2) = 2; count(1) = 4; get(0, 0) = MISSING; get(0, 2) = MISSING
            bind(0, 0, SINGLE); bind(0, 2, REQUEST); count(3) = 1; count(4) = 1
            get(0, 0) = 4; get(0, 2) = 5; get(0, 1) = 1; get(0, 3) = 3; close() = 2
            """);
        run("""
            child(0) = 1; child(1) = 2; bind(0, 0, SINGLE); bind(1, 0, SINGLE); bind(2, 11, SINGLE)
            get(0, 0) = 0; get(1, 0) = 1; get(2, 11) = 2; unbind(1, 0) = 1; get(2, 0) = 0
            count(3) = 2; unbind(2, 11) = 1; home(2, 11) = 3; count(3) = 1; count(2) = 1
            bindConstant(1, 0, 5); unbind(1, 0) = 1; bindLink(1, 0, 5); unbind(1, 0) = 1
            count(3) = 1; get(0, 0) = 0
            """);
        run("bind(0, 0, REQUEST); open(); get(0, 0) = 0; unbind(0, 0) = 1; close() = 0");
        run("""
            bind(0, 0, REQUEST); open(); get(0, 0) = 0; unbind(0, 0) = 1; bind(0, 0, SINGLE)
            count(3) = 0; count(4) = 0; get(0, 0) = 1; count(3) = 1; count(4) = 0; unbind(0, 0) = 1
            bind(0, 0, REQUEST); get(0, 0) = 2; count(3) = 0; count(4) = 1; close() = 1
            """);
    }

    private static void unbindRefused() {
        sentence("Promise 8", "No such injector or key, or no binding there: REFUSED.");
        run("child(0) = 1\n" + forKeys("bindConstant(0, #, 1) = 1")
                + forKeys("bindConstant(1, #, 1) = 1") + refused("unbind(0, #)", BAD_KEYS)
                + refused("unbind(1, #)", BAD_KEYS) + refused("unbind(#, 0)", BAD_INJECTORS)
                + "unbind(2, 0) = REFUSED; count(2) = 24");
        run("""
            child(0) = 1; child(1) = 2; unbind(0, 0) = REFUSED; bindConstant(1, 0, 1)
            unbind(0, 0) = REFUSED; unbind(2, 0) = REFUSED; unbind(1, 1) = REFUSED
            count(2) = 1; unbind(1, 0) = 1; unbind(1, 0) = REFUSED; count(2) = 0
            """);
    }

    // Promises 9 and 10

    private static void openAnswers1() {
        sentence("Promise 9", "Opens a request: 1.");
        run("""
            bind(0, 0, REQUEST); get(0, 0) = OUTSIDE; open() = 1; count(5) = 1; count(4) = 0
            get(0, 0) = 0; close() = 1; open() = 1; count(4) = 0; get(0, 0) = 1
            """);
        run("open() = 1; close() = 0\n".repeat(250));
    }

    private static void openRefused() {
        sentence("Promise 9", "One is open: REFUSED.");
        run("""
            open() = 1; open() = REFUSED; bind(0, 0, REQUEST); get(0, 0) = 0; open() = REFUSED
            count(5) = 1; count(4) = 1; get(0, 0) = 0; close() = 1; close() = REFUSED; open() = 1
            """);
    }

    private static void closeAnswersHowManyWereKept() {
        sentence("Promise 10", "Closes the request; answers how many instances were kept for it, "
                + "which then are kept no more.");
        run("""
            open(); close() = 0; count(5) = 0; bind(0, 0, REQUEST); bind(0, 1, REQUEST, 0)
            bind(0, 2, SINGLE); bind(0, 3, NONE); bind(0, 4, REQUEST)
            open(); close() = 0; open(); get(0, 0) = 0; close() = 1; count(4) = 0
            open(); get(0, 1) = 2; get(0, 2) = 3; get(0, 3) = 4; get(0, 1) = 2; close() = 2
            count(4) = 0; count(3) = 1; count(1) = 5; get(0, 0) = OUTSIDE; get(0, 2) = 3
            open(); count(4) = 0; get(0, 0) = 5; close() = 1
            """);
        Run most = run("child(0); child(1); open()");
        for (int injector = 0; injector < 3; injector++) {
            most.go(forKeys("bindClass(" + injector + ", #, REQUEST) = 0"));
            most.go(forKeys("get(" + injector + ", #)"));
        }
        most.go("close() = 36; count(4) = 0; open() = 1; get(2, 11) = 36; close() = 1");
    }

    private static void closeRefused() {
        sentence("Promise 10", "None is open: REFUSED.");
        run("""
            close() = REFUSED; count(5) = 0; open() = 1; close() = 0; close() = REFUSED
            bind(0, 0, SINGLE); get(0, 0) = 0; close() = REFUSED; count(3) = 1; open() = 1
            """);
    }

    // Promise 11

    private static void getAnswersValueOrError() {
        sentence("Promise 11", "GETS the key in the injector: the value, or the error.");
        run(BUSY + """
            get(0, 0) = CONSTANT + 7; get(1, 1) = CONSTANT + 7; get(0, 2) = 0; get(1, 3) = 1
            get(1, 4) = 3; get(0, 5) = MISSING; get(0, 6) = CIRCULAR; get(0, 7) = 4
            get(0, 8) = MISSING
            close() = 1; get(1, 3) = OUTSIDE; get(1, 4) = OUTSIDE
            """);
        run(FULL_UP + "get(0, 0) = FULL");
    }

    private static void getRefused() {
        sentence("Promise 11", "No such injector or key: REFUSED.");
        run("bindConstant(0, 0, 1); bindConstant(0, 11, 1)\n" + refused("get(0, #)", BAD_KEYS)
                + refused("get(#, 0)", BAD_INJECTORS) + refused("get(#, 0)", 1, 2) + """
            child(0) = 1; get(1, 0) = CONSTANT + 1; get(2, 0) = REFUSED; get(1, 12) = REFUSED
            get(1, -1) = REFUSED; child(1) = 2; get(2, 11) = CONSTANT + 1; get(3, 11) = REFUSED
            get(2, 12) = REFUSED
            """);
    }

    // Promise 12

    private static void askLazyGetsNow() {
        sentence("Promise 12", "For a need (from 0) of an instance: if it is lazy, GETS its key in "
                + "the instance's injector now ..");
        run("""
            child(0) = 1; child(1) = 2; bind(1, 0, SINGLE, ~1, ~2, ~3, ~0); get(2, 0) = 0
            ask(0, 0) = MISSING; bindConstant(2, 1, 12); ask(0, 0) = MISSING
            bindConstant(0, 1, 10); ask(0, 0) = CONSTANT + 10
            bindConstant(1, 1, 11); ask(0, 0) = CONSTANT + 11
            bind(0, 2, NONE); ask(0, 1) = 1; ask(0, 1) = 2; count(1) = 3; bind(0, 3, REQUEST)
            ask(0, 2) = OUTSIDE; open(); ask(0, 2) = 3; ask(0, 2) = 3; ask(0, 3) = 0
            unbind(1, 0); ask(0, 3) = MISSING; bindLink(1, 0, 0); ask(0, 3) = CIRCULAR
            held(0, 0) = HANDLE + 17; unbind(1, 1); ask(0, 0) = CONSTANT + 10
            """);
        run(FULL_UP + "ask(1, 0) = FULL; unbind(0, 0); ask(1, 0) = MISSING");
    }

    private static void askPlainHas() {
        sentence("Promise 12", ".. else the value that the instance has for it.");
        run("""
            bindConstant(0, 0, 5); bind(0, 1, NONE); bindLink(0, 2, 1)
            bind(0, 3, SINGLE, 0, 1, ~9, 2)
            get(0, 3) = 2; ask(2, 0) = CONSTANT + 5; ask(2, 1) = 0; ask(2, 3) = 1; count(1) = 3
            unbind(0, 0); unbind(0, 1); unbind(0, 3); bindConstant(0, 0, 6)
            ask(2, 0) = CONSTANT + 5; ask(2, 1) = 0; ask(2, 3) = 1; count(1) = 3
            """);
        run("bind(0, 0, REQUEST); bind(0, 1, NONE, 0); open(); get(0, 1) = 1; close() = 1\n"
                + "ask(1, 0) = 0");
    }

    private static void askRefused() {
        sentence("Promise 12", "No such instance or need: REFUSED.");
        refusesInstanceAndNeed("ask");
    }

    private static void refusesInstanceAndNeed(String name) {
        run(refused(name + "(#, 0)", 0, 1) + refused(name + "(#, 0)", BAD_INSTANCES));
        run("bindConstant(0, 9, 1); bind(0, 0, NONE); bind(0, 1, NONE, 9, ~9, 9)\n"
                + "bind(0, 2, NONE, 9, 9, 9, ~9)\n"
                + "get(0, 0) = 0; get(0, 1) = 1; get(0, 2) = 2\n"
                + refused(name + "(0, #)", 0, 1, 2, 3) + refused(name + "(0, #)", BAD_NEEDS)
                + refused(name + "(1, #)", 3) + refused(name + "(1, #)", BAD_NEEDS)
                + refused(name + "(2, #)", BAD_NEEDS) + refused(name + "(#, 0)", 3, 4, 99)
                + refused(name + "(#, 0)", BAD_INSTANCES) + refused(name + "(#, 3)", BAD_INSTANCES)
                + name + "(1, 2) = CONSTANT + 1; " + name + "(2, 2) = CONSTANT + 1");
        // An instance that an error took back is none.
        run("bind(0, 0, NONE, ~9); bind(0, 1, NONE, 0, 11); get(0, 1) = MISSING; "
                + name + "(0, 0) = REFUSED");
        run(FULL_UP + name + "(100, 0) = REFUSED; " + name + "(85, 0) = 69; " + name
                + "(99, 0) = REFUSED");
    }

    // Promise 13

    private static void heldHas() {
        sentence("Promise 13", "The value that the instance has for the need (a handle for a lazy "
                + "one).");
        run("""
            child(0) = 1; bindConstant(0, 11, MIN); bind(1, 0, SINGLE)
            bind(1, 1, NONE, 11, ~11, 0, ~0)
            get(1, 1) = 1; held(1, 0) = CONSTANT + MIN; held(1, 1) = HANDLE + 27; held(1, 2) = 0
            held(1, 3) = HANDLE + 16; count(1) = 2; unbind(1, 0); unbind(0, 11); unbind(1, 1)
            held(1, 0) = CONSTANT + MIN; held(1, 1) = HANDLE + 27; held(1, 2) = 0
            held(1, 3) = HANDLE + 16
            """);
    }

    private static void heldRefused() {
        sentence("Promise 13", "No such instance or need: REFUSED.");
        refusesInstanceAndNeed("held");
    }

    // Promise 14

    private static void aboutTells() {
        sentence("Promise 14", "Of an instance: its key (0), its injector (1), how many needs (2), "
                + "its binding's scope (3) ..");
        run("""
            child(0) = 1; child(1) = 2; open(); bind(0, 0, NONE); bind(1, 5, SINGLE, ~0)
            bind(2, 11, REQUEST, ~0, 0, ~0, 5); get(2, 11) = 2
            about(0, 0) = 0; about(0, 1) = 0; about(0, 2) = 0; about(0, 3) = 0
            about(1, 0) = 5; about(1, 1) = 1; about(1, 2) = 1; about(1, 3) = 1
            about(2, 0) = 11; about(2, 1) = 2; about(2, 2) = 4; about(2, 3) = 2
            unbind(2, 11); bind(2, 11, NONE); get(2, 11) = 3; about(2, 2) = 4; about(2, 3) = 2
            about(3, 2) = 0; about(3, 3) = 0
            """);
    }

    private static void aboutRefused() {
        sentence("Promise 14", ".. else REFUSED.");
        run("about(0, 0) = REFUSED; bind(0, 0, NONE); about(0, 0) = REFUSED; get(0, 0) = 0\n"
                + refused("about(0, #)", -1, 4, 5, Integer.MIN_VALUE, Integer.MAX_VALUE)
                + refused("about(1, #)", -1, 0, 1, 2, 3, 4)
                + refused("about(#, 0)", BAD_INSTANCES) + refused("about(#, 3)", BAD_INSTANCES));
        run("bind(0, 0, NONE); bind(0, 1, NONE, 0, 11); get(0, 1) = MISSING\n"
                + "about(0, 0) = REFUSED");
        run(FULL_UP + "about(99, 0) = 0; about(100, 0) = REFUSED; about(99, 4) = REFUSED");
    }

    // Promise 15

    private static void brokenLeast() {
        sentence("Promise 15", "The least key with a binding seen from the injector for which "
                + "getting it there would end with an error now ..");
        Run all = new Run();
        for (int key = 11; key >= 0; key--) {
            all.go("bindLink(0, " + key + ", " + key + "); broken(0) = " + key);
        }
        for (int key = 0; key < 12; key++) {
            all.go("unbind(0, " + key + "); broken(0) = " + (key + 1));
        }
        run("""
            bindLink(0, 9, 10); broken(0) = 9; bind(0, 8, REQUEST); broken(0) = 8; open()
            broken(0) = 9; bindConstant(0, 10, 1); broken(0) = 12; bind(0, 7, SINGLE, 7)
            broken(0) = 7
            """);
        run(FULL_UP + "broken(0) = 0; unbind(0, 0); broken(2) = 1; unbind(1, 1); broken(2) = 2\n"
                + "unbind(1, 2); broken(2) = 5; unbind(2, 5); broken(2) = 12; close()\n"
                + "broken(2) = 4");
    }

    private static void brokenNone() {
        sentence("Promise 15", ".. or 12 if there is none ..");
        run("broken(0) = 12; child(0); child(1); broken(1) = 12; broken(2) = 12");
        run(forKeys("bindConstant(0, #, 1)") + "broken(0) = 12; child(0); broken(1) = 12");
        run("bind(0, 0, NONE, ~0, ~11); broken(0) = 12; bindLink(0, 11, 0); broken(0) = 12");
        // The last place is free for each key on its own.
        run("bind(0, 0, NONE); bind(0, 1, SINGLE); bind(0, 2, NONE); 99 * get(0, 0) = 98\n"
                + "broken(0) = 12");
    }

    private static void brokenOnlySeen() {
        sentence("Promise 15", ".. with a binding seen from the injector .. getting it there ..");
        run("""
            child(0) = 1; child(0) = 2; bindLink(1, 3, 3); broken(0) = 12; broken(2) = 12
            broken(1) = 3; bindLink(0, 2, 5); broken(0) = 2; broken(1) = 2; broken(2) = 2
            bindConstant(1, 2, 1); broken(1) = 3; bindConstant(2, 5, 1); broken(2) = 2
            bindConstant(0, 5, 1); broken(0) = 12; broken(2) = 12; broken(1) = 3
            """);
    }

    private static void brokenChangesNothing() {
        sentence("Promise 15", ".. nothing changes.");
        changesNothing(NEW, "broken(0) = 12");
        changesNothing(BUSY, "broken(0) = 5; broken(1) = 5");
        changesNothing(BUSY + "unbind(0, 5); unbind(0, 6)", "broken(0) = 12; broken(1) = 12");
        changesNothing(FULL_UP, "broken(0) = 0; broken(1) = 0; broken(2) = 0");
        changesNothing("bind(0, 0, SINGLE); bind(0, 1, REQUEST, 0); open(); need(3, plain)",
                "broken(0) = 12");
        run("""
            bind(0, 0, SINGLE); bind(0, 1, REQUEST, 0); bind(0, 2, NONE, 1); open(); broken(0) = 12
            count(1) = 0; count(3) = 0; count(4) = 0; get(0, 2) = 2; broken(0) = 12; count(1) = 3
            count(3) = 1; count(4) = 1; get(0, 0) = 0; get(0, 1) = 1; close() = 1
            """);
    }

    private static void brokenRefused() {
        sentence("Promise 15", "No such injector: REFUSED.");
        run(refused("broken(#)", BAD_INJECTORS) + refused("broken(#)", 1, 2) + """
            child(0) = 1; broken(1) = 12; broken(2) = REFUSED
            child(0) = 2; broken(2) = 12; broken(3) = REFUSED
            """);
    }

    // Promise 16

    private static void reachSet() {
        sentence("Promise 16", "The set (bit k for key k) of the keys, the key itself among them, "
                + "that are come to from the key in the injector ..");
        Run links = new Run();
        for (int key = 0; key < 11; key++) {
            links.go("bindLink(0, " + key + ", " + (key + 1) + "); reach(0, 0) = "
                    + ((1 << key + 2) - 1));
        }
        links.go("reach(0, 11) = 2048; reach(0, 10) = 3072; bindLink(0, 11, 0)");
        links.go(forKeys("reach(0, #) = 4095"));
        longestWay("bindLink(%d, %d, %d)").go("reach(2, 0) = 4095");
        // The way to the last key goes through 9 keys of one child, 10 of the next, 11 of the root.
        Run last = run("child(0) = 1; child(1) = 2");
        for (int key = 0; key < 9; key++) {
            for (int injector = 0; injector < 3; injector++) {
                last.go("bindLink(" + injector + ", " + key + ", " + (key + 1) + ")");
            }
        }
        last.go("reach(2, 0) = 1023; bindLink(1, 9, 0); unbind(1, 8); bindLink(1, 8, 10)");
        last.go("reach(2, 0) = 2047; bindLink(0, 10, 0); reach(2, 0) = 2047");
        last.go("bindLink(0, 9, 11); reach(2, 0) = 4095; reach(1, 0) = 4095; reach(0, 0) = 3071");
    }

    /**
     * Two injectors under the root with the longest way that there can be, from key 0 of the last
     * one: through eleven keys of each child, whose twelfth leads up, and of the root up to key 9,
     * which is left unbound.
     */
    private static Run longestWay(String bind) {
        Run run = run("child(0) = 1; child(1) = 2");
        for (int step = 0; step < 11; step++) {
            run.go(String.format(bind, 2, step, step + 1));
            run.go(String.format(bind, 1, (step + 11) % 12, step));
            run.go(String.format(bind, 0, (step + 10) % 12, (step + 11) % 12));
        }
        return run;
    }

    private static void reachByLinksAndNeeds() {
        sentence("Promise 16", ".. from a pair of injector and key whose seen binding lives in J "
                + "one comes to J with a link's key and with each need's key, plain or lazy; "
                + "whatever is kept.");
        run("""
            bindConstant(0, 0, 1); reach(0, 0) = 1; bind(0, 1, NONE); reach(0, 1) = 2
            bind(0, 2, SINGLE, ~3, 11, ~0, 2); reach(0, 2) = 2061; bindLink(0, 3, 1)
            reach(0, 2) = 2063; bindConstant(0, 11, 1); get(0, 2) = CIRCULAR; unbind(0, 2)
            bind(0, 2, SINGLE, ~3, 11); get(0, 2) = 0; reach(0, 2) = 2062; get(0, 2) = 0
            reach(0, 2) = 2062; count(1) = 1
            """);
        // A key in two injectors: both ways are gone, each where it lives.
        run("""
            child(0) = 1; child(1) = 2; bindLink(0, 0, 1); bindLink(1, 1, 2); bindLink(2, 1, 3)
            reach(2, 0) = 3; reach(2, 1) = 10; reach(1, 1) = 6; reach(0, 1) = 2
            bind(2, 4, REQUEST, 0, ~1); reach(2, 4) = 27; bindLink(0, 1, 5); reach(2, 4) = 59
            reach(1, 4) = 16
            """);
    }

    private static void reachWithoutBinding() {
        sentence("Promise 16", "The key itself also without a binding.");
        Run run = run("child(0) = 1; child(1) = 2");
        for (int key = 0; key < 12; key++) {
            run.go("reach(0, " + key + ") = " + (1 << key));
            run.go("reach(2, " + key + ") = " + (1 << key));
        }
        run.go("bindLink(2, 0, 1); reach(0, 0) = 1; reach(1, 0) = 1; reach(2, 0) = 3");
        run.go("unbind(2, 0); reach(2, 0) = 1");
    }

    private static void reachRefused() {
        sentence("Promise 16", "REFUSED.");
        run(refused("reach(0, #)", BAD_KEYS) + refused("reach(#, 0)", BAD_INJECTORS)
                + refused("reach(#, 0)", 1, 2) + "child(0) = 1; reach(1, 11) = 2048\n"
                + "reach(2, 11) = REFUSED; reach(1, 12) = REFUSED; reach(1, -1) = REFUSED");
    }

    // Promise 17

    private static void homeOr3() {
        sentence("Promise 17", "The injector in which the binding seen from the injector for the "
                + "key lives, or 3 if none is seen ..");
        run("child(0) = 1; child(1) = 2\n" + forKeys("home(2, #) = 3")
                + forKeys("bindConstant(0, #, 1)") + forKeys("home(2, #) = 0")
                + forKeys("bindLink(1, #, 1)") + forKeys("home(2, #) = 1")
                + forKeys("bindClass(2, #, 0)") + forKeys("home(2, #) = 2")
                + forKeys("home(1, #) = 1") + forKeys("home(0, #) = 0") + """
            unbind(1, 0); home(1, 0) = 0; home(2, 0) = 2; unbind(2, 0); home(2, 0) = 0
            unbind(0, 0); home(2, 0) = 3; home(0, 0) = 3; unbind(0, 1); home(0, 1) = 3
            home(1, 1) = 1
            """);
        run("child(0) = 1; child(0) = 2; bindConstant(1, 0, 1); home(2, 0) = 3; home(0, 0) = 3");
    }

    private static void homeRefused() {
        sentence("Promise 17", ".. REFUSED.");
        run(refused("home(0, #)", BAD_KEYS) + refused("home(#, 0)", BAD_INJECTORS)
                + refused("home(#, 0)", 1, 2) + """
            child(0) = 1; home(1, 11) = 3; home(2, 11) = REFUSED; home(1, 12) = REFUSED
            home(1, -1) = REFUSED; bindConstant(0, 0, 1); home(2, 0) = REFUSED
            """);
    }

    // Promise 18

    private static void countTells() {
        sentence("Promise 18", "Injectors (0), instances made (1), bindings in all injectors (2), "
                + "kept by SINGLE (3), kept for the request (4), 1 if a request is open else 0 "
                + "(5) ..");
        run("""
            count(0) = 1; count(1) = 0; count(2) = 0; count(3) = 0; count(4) = 0; count(5) = 0
            child(0); child(1); bind(0, 0, SINGLE); bind(1, 0, SINGLE); bind(2, 0, REQUEST)
            bindConstant(2, 1, 1); bindLink(2, 2, 1); bind(2, 3, NONE, 0); bind(0, 4, SINGLE)
            open()
            get(0, 0) = 0; get(1, 0) = 1; get(2, 3) = 3; get(2, 3) = 4
            count(0) = 3; count(1) = 5; count(2) = 7; count(3) = 2; count(4) = 1; count(5) = 1
            close() = 1; count(0) = 3; count(1) = 5; count(2) = 7; count(3) = 2; count(4) = 0
            count(5) = 0; unbind(1, 0); count(1) = 5; count(2) = 6; count(3) = 1
            """);
        run(FULL_UP + "count(0) = 3; count(1) = 100; count(2) = 6; count(3) = 1; count(4) = 1\n"
                + "count(5) = 1");
        Run all = run("child(0); child(1)");
        for (int injector = 0; injector < 3; injector++) {
            all.go(forKeys("bindClass(" + injector + ", #, SINGLE) = 0"));
            all.go(forKeys("get(" + injector + ", #)"));
        }
        all.go("count(2) = 36; count(3) = 36; count(4) = 0");
    }

    private static void countRefused() {
        sentence("Promise 18", ".. else REFUSED.");
        run(refused("count(#)", -1, 6, 7, 12, Integer.MIN_VALUE, Integer.MAX_VALUE));
    }
}
