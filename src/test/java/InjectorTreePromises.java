/** For each promise of the document: ordinary inputs, the edges that it names, and wrong inputs. */
public final class InjectorTreePromises {
    private static final int REFUSED = -1;
    private static final int MISSING = -2;
    private static final int CIRCULAR = -3;
    private static final int OUTSIDE = -4;
    private static final int FULL = -5;
    private static final int NONE = 0;
    private static final int SINGLE = 1;
    private static final int REQUEST = 2;
    private static final int[] NO_SUCH_KEYS = {-1, 12, 13, 16, Integer.MIN_VALUE, Integer.MAX_VALUE};
    private static final int[] NEVER_INJECTORS = {-1, 3, 4, 12, Integer.MIN_VALUE, Integer.MAX_VALUE};

    private static int wrong = 0;

    private static void due(String call, long got, long want) {
        if (got != want) {
            wrong++;
            System.out.println(call + " answered " + got + ", due is " + want);
        }
    }

    public static void main(String[] args) {
        aNewObject();
        objectsAreApart();
        child();
        childParents();
        need();
        drop();
        bindConstant();
        bindLink();
        bindClass();
        bindClassRefusedKeepsBuffer();
        unbind();
        unbindTakesTheKept();
        openAndClose();
        closeCounts();
        getOrdinary();
        getThroughTheTree();
        getMissing();
        getCircular();
        getCircularOnlyWhileWorkedOn();
        getOutside();
        getFull();
        getOrderOfErrors();
        getErrorLeavesAll();
        getDeepestChain();
        getWrong();
        ask();
        askInRequests();
        askErrorLeavesAll();
        askWrong();
        held();
        about();
        broken();
        brokenChangesNothing();
        reach();
        reachThroughTheTree();
        home();
        count();
        if (wrong != 0) {
            System.out.println(wrong + " answers are not as due");
            System.exit(1);
        }
    }

    private static InjectorTree chainOfInjectors() {
        InjectorTree x = new InjectorTree();
        x.child(0);
        x.child(1);
        return x;
    }

    /** Binds a class; a plain need is its key, a lazy one is 100 more. */
    private static int bind(InjectorTree x, int injector, int key, int scope, int... needs) {
        x.drop();
        for (int need : needs) {
            x.need(need % 100, need >= 100);
        }
        return x.bindClass(injector, key, scope);
    }

    private static void fillTo(InjectorTree x, int injector, int key, int instances) {
        for (int i = 0; i < 100 && x.count(1) < instances; i++) {
            x.get(injector, key);
        }
        due("fillTo: count(1)", x.count(1), instances);
    }

    // Promise 1
    private static void aNewObject() {
        InjectorTree x = new InjectorTree();
        due("new: count(0)", x.count(0), 1);
        for (int what = 1; what <= 5; what++) {
            due("new: count(" + what + ")", x.count(what), 0);
        }
        for (int key = 0; key < 12; key++) {
            due("new: home(0, " + key + ")", x.home(0, key), 3);
            due("new: get(0, " + key + ")", x.get(0, key), MISSING);
        }
        due("new: get(1, 0)", x.get(1, 0), REFUSED);
        due("new: about(0, 0)", x.about(0, 0), REFUSED);
        due("new: broken(0)", x.broken(0), 12);
        due("new: drop()", x.drop(), 0);
        due("new: close()", x.close(), REFUSED);
    }

    private static void objectsAreApart() {
        InjectorTree x = new InjectorTree();
        InjectorTree y = new InjectorTree();
        x.child(0);
        x.need(3, true);
        x.bindConstant(0, 0, 1);
        bind(x, 0, 1, SINGLE);
        x.get(0, 1);
        x.open();
        x.need(4, false);
        due("apart: count(0)", y.count(0), 1);
        due("apart: count(1)", y.count(1), 0);
        due("apart: count(2)", y.count(2), 0);
        due("apart: count(3)", y.count(3), 0);
        due("apart: count(5)", y.count(5), 0);
        due("apart: drop()", y.drop(), 0);
    }

    // Promise 2
    private static void child() {
        InjectorTree x = new InjectorTree();
        for (int parent : NEVER_INJECTORS) {
            due("child(" + parent + ")", x.child(parent), REFUSED);
        }
        due("child(1) before it is", x.child(1), REFUSED);
        due("child: count(0)", x.count(0), 1);
        due("child(0)", x.child(0), 1);
        due("child(2) before it is", x.child(2), REFUSED);
        due("child(1)", x.child(1), 2);
        for (int parent = 0; parent <= 3; parent++) {
            due("child(" + parent + ") when 3 are there", x.child(parent), REFUSED);
        }
        due("child: count(0) at the end", x.count(0), 3);
    }

    private static void childParents() {
        InjectorTree siblings = new InjectorTree();
        siblings.child(0);
        due("siblings: child(0)", siblings.child(0), 2);
        siblings.bindConstant(1, 4, 9);
        due("siblings: home(1, 4)", siblings.home(1, 4), 1);
        due("siblings: home(2, 4)", siblings.home(2, 4), 3);
        siblings.bindConstant(0, 4, 9);
        due("siblings: home(2, 4) from the root", siblings.home(2, 4), 0);
        InjectorTree chain = chainOfInjectors();
        chain.bindConstant(1, 4, 9);
        due("chain: home(2, 4)", chain.home(2, 4), 1);
        due("chain: home(0, 4)", chain.home(0, 4), 3);
    }

    // Promise 3
    private static void need() {
        InjectorTree x = new InjectorTree();
        for (int key : NO_SUCH_KEYS) {
            due("need(" + key + ", false)", x.need(key, false), REFUSED);
            due("need(" + key + ", true)", x.need(key, true), REFUSED);
        }
        due("need(0, false)", x.need(0, false), 1);
        due("need(11, true)", x.need(11, true), 2);
        due("need(0, false) again", x.need(0, false), 3);
        due("need(12, false) between", x.need(12, false), REFUSED);
        due("need(5, true)", x.need(5, true), 4);
        due("need(5, true) when it holds 4", x.need(5, true), REFUSED);
        due("need: bindClass(0, 3, 0)", x.bindClass(0, 3, NONE), 4);
        x.bindConstant(0, 0, 70);
        due("need: get(0, 3)", x.get(0, 3), 0);
        due("need: held(0, 0)", x.held(0, 0), 10000000070L);
        due("need: held(0, 1)", x.held(0, 1), 20000000011L);
        due("need: held(0, 2)", x.held(0, 2), 10000000070L);
        due("need: held(0, 3)", x.held(0, 3), 20000000005L);
        due("need(1, false) after bindClass", x.need(1, false), 1);
    }

    // Promise 4
    private static void drop() {
        InjectorTree x = new InjectorTree();
        due("drop() of nothing", x.drop(), 0);
        for (int key = 0; key < 4; key++) {
            x.need(key, true);
        }
        due("drop() of 4", x.drop(), 4);
        due("drop() again", x.drop(), 0);
        due("need after drop", x.need(7, false), 1);
        due("bindClass after drop", x.bindClass(0, 0, NONE), 1);
        due("reach after drop", x.reach(0, 0), 1 | 1 << 7);
        due("drop() after bindClass", x.drop(), 0);
        due("reach after drop after bindClass", x.reach(0, 0), 1 | 1 << 7);
    }

    // Promise 5
    private static void bindConstant() {
        InjectorTree x = new InjectorTree();
        for (int key : NO_SUCH_KEYS) {
            due("bindConstant(0, " + key + ", 1)", x.bindConstant(0, key, 1), REFUSED);
        }
        for (int injector : NEVER_INJECTORS) {
            due("bindConstant(" + injector + ", 0, 1)", x.bindConstant(injector, 0, 1), REFUSED);
        }
        due("bindConstant(1, 0, 1) before 1 is", x.bindConstant(1, 0, 1), REFUSED);
        due("bindConstant: count(2)", x.count(2), 0);
        x.child(0);
        due("bindConstant(0, 0, max)", x.bindConstant(0, 0, Integer.MAX_VALUE), 1);
        due("bindConstant(0, 11, min)", x.bindConstant(0, 11, Integer.MIN_VALUE), 1);
        due("bindConstant(0, 0, 5) again", x.bindConstant(0, 0, 5), REFUSED);
        due("get max", x.get(0, 0), 12147483647L);
        due("get min", x.get(0, 11), 7852516352L);
        due("bindConstant(1, 0, -1) over the parent's", x.bindConstant(1, 0, -1), 1);
        due("get(1, 0)", x.get(1, 0), 9999999999L);
        due("get(0, 0)", x.get(0, 0), 12147483647L);
        x.bindLink(0, 1, 0);
        bind(x, 0, 2, NONE);
        due("bindConstant over a link", x.bindConstant(0, 1, 1), REFUSED);
        due("bindConstant over a class", x.bindConstant(0, 2, 1), REFUSED);
        due("bindConstant: count(1)", x.count(1), 0);
        due("bindConstant: count(2) at the end", x.count(2), 5);
        x.need(3, false);
        x.bindConstant(0, 3, 1);
        due("bindConstant leaves the buffer", x.drop(), 1);
    }

    // Promise 6
    private static void bindLink() {
        InjectorTree x = new InjectorTree();
        for (int key : NO_SUCH_KEYS) {
            due("bindLink(0, " + key + ", 1)", x.bindLink(0, key, 1), REFUSED);
            due("bindLink(0, 1, " + key + ")", x.bindLink(0, 1, key), REFUSED);
        }
        for (int injector : NEVER_INJECTORS) {
            due("bindLink(" + injector + ", 0, 1)", x.bindLink(injector, 0, 1), REFUSED);
        }
        due("bindLink(1, 0, 1) before 1 is", x.bindLink(1, 0, 1), REFUSED);
        due("bindLink: count(2)", x.count(2), 0);
        due("bindLink(0, 0, 11)", x.bindLink(0, 0, 11), 1);
        due("bindLink(0, 11, 5)", x.bindLink(0, 11, 5), 1);
        due("bindLink(0, 0, 5) again", x.bindLink(0, 0, 5), REFUSED);
        x.bindConstant(0, 5, 42);
        due("get through two links", x.get(0, 0), 10000000042L);
        due("bindLink over a constant", x.bindLink(0, 5, 0), REFUSED);
        due("bindLink(0, 6, 6) to itself", x.bindLink(0, 6, 6), 1);
        due("get(0, 6)", x.get(0, 6), CIRCULAR);
        x.need(3, false);
        x.bindLink(0, 7, 5);
        due("bindLink leaves the buffer", x.drop(), 1);
        bind(x, 0, 8, SINGLE);
        due("bindLink over a class", x.bindLink(0, 8, 5), REFUSED);
        x.bindLink(0, 9, 8);
        due("get of a link to a class", x.get(0, 9), 0);
        due("get of the class", x.get(0, 8), 0);
        due("about(0, 0) is the class's key", x.about(0, 0), 8);
        due("bindLink: count(3)", x.count(3), 1);
        x.child(0);
        x.bindConstant(1, 5, 43);
        due("a link's key is got where the link lives", x.get(1, 0), 10000000042L);
        due("bindLink(1, 0, 5)", x.bindLink(1, 0, 5), 1);
        due("get of the child's own link", x.get(1, 0), 10000000043L);
    }

    // Promise 7
    private static void bindClass() {
        InjectorTree x = chainOfInjectors();
        due("bindClass(0, 0, 0)", x.bindClass(0, 0, NONE), 0);
        x.need(0, false);
        due("bindClass(0, 11, 1)", x.bindClass(0, 11, SINGLE), 1);
        due("bindClass takes the buffer", x.drop(), 0);
        x.need(0, false);
        x.need(0, true);
        due("bindClass(2, 5, 2)", x.bindClass(2, 5, REQUEST), 2);
        due("NONE: get(0, 0)", x.get(0, 0), 0);
        due("NONE: get(0, 0) again", x.get(0, 0), 1);
        due("NONE: count(3)", x.count(3), 0);
        due("SINGLE: get(0, 11)", x.get(0, 11), 3);
        due("SINGLE: get(1, 11) again", x.get(1, 11), 3);
        due("SINGLE: get(2, 11) again", x.get(2, 11), 3);
        due("SINGLE: held(3, 0)", x.held(3, 0), 2);
        due("SINGLE: count(3)", x.count(3), 1);
        x.open();
        due("REQUEST: get(2, 5)", x.get(2, 5), 5);
        due("REQUEST: get(2, 5) again", x.get(2, 5), 5);
        due("REQUEST: held(5, 0)", x.held(5, 0), 4);
        due("REQUEST: held(5, 1)", x.held(5, 1), 20000000032L);
        due("REQUEST: count(4)", x.count(4), 1);
        due("REQUEST: count(3)", x.count(3), 1);
        x.close();
        x.open();
        due("REQUEST: get(2, 5) in a new request", x.get(2, 5), 7);
        due("SINGLE: get(0, 11) in a new request", x.get(0, 11), 3);
    }

    private static void bindClassRefusedKeepsBuffer() {
        InjectorTree x = new InjectorTree();
        x.bindConstant(0, 1, 0);
        x.bindLink(0, 2, 1);
        x.bindClass(0, 3, NONE);
        x.need(4, true);
        x.need(5, false);
        for (int key : NO_SUCH_KEYS) {
            due("bindClass(0, " + key + ", 0)", x.bindClass(0, key, NONE), REFUSED);
        }
        for (int injector : NEVER_INJECTORS) {
            due("bindClass(" + injector + ", 0, 0)", x.bindClass(injector, 0, NONE), REFUSED);
        }
        due("bindClass(1, 0, 0) before 1 is", x.bindClass(1, 0, NONE), REFUSED);
        for (int scope : new int[] {-1, 3, Integer.MIN_VALUE, Integer.MAX_VALUE}) {
            due("bindClass(0, 0, " + scope + ")", x.bindClass(0, 0, scope), REFUSED);
        }
        for (int key = 1; key <= 3; key++) {
            due("bindClass(0, " + key + ", 0) bound", x.bindClass(0, key, NONE), REFUSED);
        }
        due("bindClass refused: count(2)", x.count(2), 3);
        due("bindClass at last", x.bindClass(0, 0, NONE), 2);
        due("bindClass at last: reach", x.reach(0, 0), 1 | 1 << 4 | 1 << 5);
        due("the needs stay with their class", x.reach(0, 3), 1 << 3);
    }

    // Promise 8
    private static void unbind() {
        InjectorTree x = chainOfInjectors();
        for (int key : NO_SUCH_KEYS) {
            due("unbind(0, " + key + ")", x.unbind(0, key), REFUSED);
        }
        for (int injector : NEVER_INJECTORS) {
            due("unbind(" + injector + ", 0)", x.unbind(injector, 0), REFUSED);
        }
        due("unbind(0, 0) unbound", x.unbind(0, 0), REFUSED);
        x.bindConstant(0, 0, 1);
        x.bindConstant(1, 0, 2);
        due("unbind(2, 0) bound above only", x.unbind(2, 0), REFUSED);
        due("unbind(1, 0)", x.unbind(1, 0), 1);
        due("unbind: get(2, 0)", x.get(2, 0), 10000000001L);
        due("unbind(1, 0) again", x.unbind(1, 0), REFUSED);
        due("unbind: count(2)", x.count(2), 1);
        due("unbind(0, 0)", x.unbind(0, 0), 1);
        due("unbind: get(2, 0) unbound", x.get(2, 0), MISSING);
        due("unbind: bindLink(0, 0, 1) then", x.bindLink(0, 0, 1), 1);
        due("unbind of a link", x.unbind(0, 0), 1);
        due("unbind: count(2) at the end", x.count(2), 0);
        InjectorTree y = new InjectorTree();
        due("unbind(1, 0) before 1 is", y.unbind(1, 0), REFUSED);
    }

    private static void unbindTakesTheKept() {
        InjectorTree x = new InjectorTree();
        bind(x, 0, 0, SINGLE, 103);
        bind(x, 0, 1, REQUEST);
        bind(x, 0, 2, SINGLE);
        x.open();
        x.get(0, 0);
        x.get(0, 1);
        x.get(0, 2);
        due("kept: unbind(0, 0)", x.unbind(0, 0), 1);
        due("kept: count(3)", x.count(3), 1);
        due("kept: unbind(0, 1)", x.unbind(0, 1), 1);
        due("kept: count(4)", x.count(4), 0);
        due("kept: count(1)", x.count(1), 3);
        bind(x, 0, 0, REQUEST);
        due("kept: get(0, 0) bound anew", x.get(0, 0), 3);
        due("kept: get(0, 2) as before", x.get(0, 2), 2);
        due("kept: about(0, 3) of the old binding", x.about(0, 3), SINGLE);
        due("kept: about(0, 2) of the old binding", x.about(0, 2), 1);
        due("kept: about(3, 3)", x.about(3, 3), REQUEST);
        due("kept: held(0, 0) stays", x.held(0, 0), 20000000003L);
        x.bindConstant(0, 3, 8);
        due("kept: ask(0, 0) of the old binding", x.ask(0, 0), 10000000008L);
        due("kept: close()", x.close(), 1);
    }

    // Promises 9 and 10
    private static void openAndClose() {
        InjectorTree x = new InjectorTree();
        due("close() at first", x.close(), REFUSED);
        due("open()", x.open(), 1);
        due("open() again", x.open(), REFUSED);
        due("open: count(5)", x.count(5), 1);
        due("close()", x.close(), 0);
        due("close: count(5)", x.count(5), 0);
        due("close() again", x.close(), REFUSED);
        due("open() anew", x.open(), 1);
        bind(x, 0, 0, REQUEST);
        x.get(0, 0);
        due("open() refused", x.open(), REFUSED);
        due("a refused open() leaves what is kept", x.get(0, 0), 0);
    }

    private static void closeCounts() {
        InjectorTree x = chainOfInjectors();
        bind(x, 0, 0, REQUEST);
        bind(x, 1, 0, REQUEST);
        bind(x, 2, 11, REQUEST);
        bind(x, 2, 1, SINGLE);
        bind(x, 2, 2, NONE);
        bind(x, 2, 3, REQUEST);
        x.open();
        due("closeCounts: get(0, 0)", x.get(0, 0), 0);
        due("closeCounts: get(2, 0)", x.get(2, 0), 1);
        due("closeCounts: get(1, 0)", x.get(1, 0), 1);
        due("closeCounts: get(2, 11)", x.get(2, 11), 2);
        due("closeCounts: get(2, 1)", x.get(2, 1), 3);
        due("closeCounts: get(2, 2)", x.get(2, 2), 4);
        due("closeCounts: count(4)", x.count(4), 3);
        due("closeCounts: close()", x.close(), 3);
        due("closeCounts: count(4) then", x.count(4), 0);
        due("closeCounts: count(3) then", x.count(3), 1);
        due("closeCounts: count(1) then", x.count(1), 5);
        due("closeCounts: get(0, 0) then", x.get(0, 0), OUTSIDE);
        x.open();
        due("closeCounts: close() of a request without gets", x.close(), 0);
    }

    // Promise 11
    private static void getOrdinary() {
        InjectorTree x = new InjectorTree();
        x.bindConstant(0, 0, 3);
        x.bindLink(0, 1, 0);
        bind(x, 0, 2, SINGLE, 1);
        bind(x, 0, 3, NONE, 2, 0, 111, 2);
        due("get(0, 0)", x.get(0, 0), 10000000003L);
        due("get(0, 1)", x.get(0, 1), 10000000003L);
        due("get(0, 3)", x.get(0, 3), 1);
        due("get(0, 3) again", x.get(0, 3), 2);
        due("get(0, 2)", x.get(0, 2), 0);
        due("held(0, 0)", x.held(0, 0), 10000000003L);
        for (int instance = 1; instance <= 2; instance++) {
            due("held(" + instance + ", 0)", x.held(instance, 0), 0);
            due("held(" + instance + ", 1)", x.held(instance, 1), 10000000003L);
            due("held(" + instance + ", 2)", x.held(instance, 2), 20000000011L);
            due("held(" + instance + ", 3)", x.held(instance, 3), 0);
        }
        x.unbind(0, 0);
        due("a kept instance needs nothing", x.get(0, 2), 0);
    }

    private static void getThroughTheTree() {
        InjectorTree x = chainOfInjectors();
        bind(x, 0, 0, NONE, 1, 101);
        bind(x, 1, 1, SINGLE, 2);
        x.bindConstant(0, 1, 50);
        x.bindConstant(2, 2, 52);
        due("tree: needs are got where the class lives", x.get(2, 1), MISSING);
        due("tree: get(2, 0)", x.get(2, 0), 0);
        due("tree: held(0, 0)", x.held(0, 0), 10000000050L);
        due("tree: held(0, 1)", x.held(0, 1), 20000000001L);
        due("tree: about(0, 1)", x.about(0, 1), 0);
        bind(x, 2, 0, NONE, 102, 2);
        due("tree: get(2, 0) of its own", x.get(2, 0), 1);
        due("tree: held(1, 0)", x.held(1, 0), 20000000034L);
        due("tree: held(1, 1)", x.held(1, 1), 10000000052L);
        due("tree: about(1, 1)", x.about(1, 1), 2);
        due("tree: get(1, 0) sees the root's", x.get(1, 0), 2);
        due("tree: about(2, 1)", x.about(2, 1), 0);
    }

    private static void getMissing() {
        InjectorTree x = chainOfInjectors();
        due("MISSING: get(2, 0)", x.get(2, 0), MISSING);
        x.bindLink(0, 0, 1);
        x.bindConstant(1, 1, 4);
        due("MISSING: the link's key, in the root", x.get(2, 0), MISSING);
        bind(x, 0, 2, NONE, 101);
        due("MISSING: not for a lazy need", x.get(0, 2), 0);
        bind(x, 0, 3, NONE, 1);
        due("MISSING: for a plain need", x.get(0, 3), MISSING);
        due("MISSING: the child's bindings aren't seen", x.get(0, 1), MISSING);
    }

    private static void getCircular() {
        InjectorTree x = new InjectorTree();
        bind(x, 0, 0, SINGLE, 0);
        due("CIRCULAR: needs itself", x.get(0, 0), CIRCULAR);
        bind(x, 0, 1, NONE, 2);
        x.bindLink(0, 2, 3);
        bind(x, 0, 3, SINGLE, 1);
        for (int key = 1; key <= 3; key++) {
            due("CIRCULAR: get(0, " + key + ")", x.get(0, key), CIRCULAR);
        }
        bind(x, 0, 4, SINGLE, 104);
        due("CIRCULAR: not by a lazy need", x.get(0, 4), 0);
        due("CIRCULAR: ask(0, 0)", x.ask(0, 0), 0);
        InjectorTree y = chainOfInjectors();
        y.bindLink(1, 0, 1);
        y.bindLink(0, 1, 0);
        y.bindConstant(0, 0, 6);
        due("CIRCULAR: the same key in another injector is another pair", y.get(2, 0), 10000000006L);
        y.bindLink(2, 0, 0);
        due("CIRCULAR: a link to its own key sees itself", y.get(2, 0), CIRCULAR);
    }

    /** The order of the rules: what is kept comes before CIRCULAR, and a pair's work ends. */
    private static void getCircularOnlyWhileWorkedOn() {
        InjectorTree x = new InjectorTree();
        bind(x, 0, 0, NONE);
        bind(x, 0, 1, NONE, 0, 0);
        x.bindLink(0, 2, 1);
        bind(x, 0, 3, NONE, 2, 2, 1, 0);
        due("work ends: get(0, 3)", x.get(0, 3), 10);
        bind(x, 0, 4, SINGLE, 5);
        due("work ends: get(0, 4) MISSING", x.get(0, 4), MISSING);
        bind(x, 0, 5, NONE, 4);
        due("work ends: get(0, 4) CIRCULAR", x.get(0, 4), CIRCULAR);
        due("work ends: get(0, 5) CIRCULAR", x.get(0, 5), CIRCULAR);
        x.unbind(0, 5);
        x.bindConstant(0, 5, 1);
        due("work ends after an error", x.get(0, 4), 11);
        x.unbind(0, 5);
        bind(x, 0, 5, NONE, 4);
        due("kept: the circle is no more", x.get(0, 5), 12);
        due("kept: held(12, 0)", x.held(12, 0), 11);
    }

    private static void getOutside() {
        InjectorTree x = new InjectorTree();
        bind(x, 0, 0, REQUEST);
        bind(x, 0, 1, SINGLE, 0);
        x.bindLink(0, 2, 0);
        for (int key = 0; key <= 2; key++) {
            due("OUTSIDE: get(0, " + key + ")", x.get(0, key), OUTSIDE);
        }
        x.open();
        due("OUTSIDE: no more, get(0, 1)", x.get(0, 1), 1);
        due("OUTSIDE: no more, get(0, 2)", x.get(0, 2), 0);
        x.close();
        due("OUTSIDE: get(0, 1) is kept by SINGLE", x.get(0, 1), 1);
        due("OUTSIDE: held(1, 0) stays", x.held(1, 0), 0);
        due("OUTSIDE: get(0, 2) again", x.get(0, 2), OUTSIDE);
    }

    private static void getFull() {
        InjectorTree x = new InjectorTree();
        bind(x, 0, 0, NONE);
        bind(x, 0, 1, SINGLE);
        bind(x, 0, 2, SINGLE);
        bind(x, 0, 3, NONE, 0);
        x.get(0, 1);
        fillTo(x, 0, 0, 99);
        due("FULL: two more at 99", x.get(0, 3), FULL);
        due("FULL: count(1) then", x.count(1), 99);
        due("FULL: the 100th", x.get(0, 0), 99);
        due("FULL: about(99, 0)", x.about(99, 0), 0);
        due("FULL: about(100, 0)", x.about(100, 0), REFUSED);
        due("FULL: get(0, 0)", x.get(0, 0), FULL);
        due("FULL: get(0, 2)", x.get(0, 2), FULL);
        due("FULL: what is kept is still got", x.get(0, 1), 0);
        x.bindConstant(0, 4, 1);
        due("FULL: constants are still got", x.get(0, 4), 10000000001L);
        due("FULL: count(1)", x.count(1), 100);
        due("FULL: count(3)", x.count(3), 1);
        due("FULL: broken(0)", x.broken(0), 0);
    }

    private static void getOrderOfErrors() {
        InjectorTree x = new InjectorTree();
        x.bindLink(0, 0, 0);
        bind(x, 0, 1, REQUEST);
        bind(x, 0, 2, NONE, 11, 0, 1);
        bind(x, 0, 3, NONE, 0, 1, 11);
        bind(x, 0, 4, NONE, 1, 11, 0);
        due("first need's error: MISSING", x.get(0, 2), MISSING);
        due("first need's error: CIRCULAR", x.get(0, 3), CIRCULAR);
        due("first need's error: OUTSIDE", x.get(0, 4), OUTSIDE);
        bind(x, 0, 5, REQUEST, 11);
        bind(x, 0, 6, REQUEST, 6);
        due("OUTSIDE before the needs: MISSING", x.get(0, 5), OUTSIDE);
        due("OUTSIDE before the needs: CIRCULAR", x.get(0, 6), OUTSIDE);
        x.open();
        due("in a request: MISSING", x.get(0, 5), MISSING);
        due("in a request: CIRCULAR", x.get(0, 6), CIRCULAR);
        x.close();
        bind(x, 0, 7, NONE);
        fillTo(x, 0, 7, 100);
        due("FULL after the needs: MISSING", x.get(0, 2), MISSING);
        due("FULL after the needs: CIRCULAR", x.get(0, 3), CIRCULAR);
        due("FULL after OUTSIDE", x.get(0, 1), OUTSIDE);
        bind(x, 0, 8, NONE, 7, 11);
        due("FULL of a need before the next need", x.get(0, 8), FULL);
        InjectorTree y = new InjectorTree();
        bind(y, 0, 0, NONE);
        bind(y, 0, 1, NONE, 0, 1);
        fillTo(y, 0, 0, 99);
        due("CIRCULAR at the second coming already", y.get(0, 1), CIRCULAR);
        due("CIRCULAR: count(1) then", y.count(1), 99);
    }

    private static void getErrorLeavesAll() {
        InjectorTree x = new InjectorTree();
        bind(x, 0, 0, SINGLE);
        bind(x, 0, 1, REQUEST, 0);
        bind(x, 0, 2, NONE, 0);
        bind(x, 0, 3, NONE, 0, 1, 2, 11);
        bind(x, 0, 4, SINGLE);
        x.open();
        due("error: get(0, 4)", x.get(0, 4), 0);
        due("error: get(0, 3)", x.get(0, 3), MISSING);
        due("error: count(1)", x.count(1), 1);
        due("error: count(3)", x.count(3), 1);
        due("error: count(4)", x.count(4), 0);
        due("error: about(1, 0)", x.about(1, 0), REFUSED);
        due("error: held(1, 0)", x.held(1, 0), REFUSED);
        due("error: what was kept before stays", x.get(0, 4), 0);
        due("error: numbers are given anew", x.get(0, 1), 2);
        due("error: held(2, 0)", x.held(2, 0), 1);
        due("error: about(1, 0) then", x.about(1, 0), 0);
        due("error: get(0, 3) again", x.get(0, 3), MISSING);
        due("error: get(0, 0) is kept", x.get(0, 0), 1);
        due("error: get(0, 1) is kept", x.get(0, 1), 2);
        due("error: count(1) at the end", x.count(1), 3);
    }

    /**
     * The longest way there is: through eleven keys of each child, whose twelfth leads up to its
     * parent, and through all keys of the root, where it ends in each of the ways it can.
     */
    private static void getDeepestChain() {
        for (int kind = 0; kind < 2; kind++) {
            InjectorTree x = chainOfInjectors();
            for (int step = 0; step < 11; step++) {
                bindStep(x, kind, 2, step, step + 1);
                bindStep(x, kind, 1, (step + 11) % 12, (step + 12) % 12);
                bindStep(x, kind, 0, (step + 10) % 12, (step + 11) % 12);
            }
            due("chain to nothing", x.get(2, 0), MISSING);
            due("chain: broken(2)", x.broken(2), 0);
            bindStep(x, kind, 0, 9, 10);
            due("chain in a circle", x.get(2, 0), CIRCULAR);
            due("chain: reach(2, 0)", x.reach(2, 0), 4095);
            x.unbind(0, 9);
            bindStep(x, kind, 0, 9, 0);
            due("chain in a circle to its midst", x.get(2, 0), CIRCULAR);
            x.unbind(0, 9);
            x.bindConstant(0, 9, 5);
            due("chain to a constant", x.get(2, 0), kind == 0 ? 10000000005L : 32);
            due("chain: count(1)", x.count(1), kind == 0 ? 0 : 33);
            due("chain: broken(2) then", x.broken(2), 12);
        }
    }

    private static void bindStep(InjectorTree x, int kind, int injector, int key, int next) {
        if (kind == 0) {
            x.bindLink(injector, key, next);
        } else {
            bind(x, injector, key, NONE, next);
        }
    }

    private static void getWrong() {
        InjectorTree x = new InjectorTree();
        x.bindConstant(0, 0, 1);
        for (int key : NO_SUCH_KEYS) {
            due("get(0, " + key + ")", x.get(0, key), REFUSED);
        }
        for (int injector : NEVER_INJECTORS) {
            due("get(" + injector + ", 0)", x.get(injector, 0), REFUSED);
        }
        due("get(1, 0) before 1 is", x.get(1, 0), REFUSED);
        x.child(0);
        due("get(1, 0)", x.get(1, 0), 10000000001L);
        due("get(2, 0) before 2 is", x.get(2, 0), REFUSED);
    }

    // Promise 12
    private static void ask() {
        InjectorTree x = chainOfInjectors();
        x.bindConstant(1, 0, 10);
        bind(x, 1, 1, SINGLE, 0, 100, 102);
        due("ask: get(2, 1)", x.get(2, 1), 0);
        x.unbind(1, 0);
        x.bindConstant(1, 0, 11);
        x.bindConstant(2, 0, 12);
        due("ask(0, 0) has its value", x.ask(0, 0), 10000000010L);
        due("ask(0, 1) gets now, in the instance's injector", x.ask(0, 1), 10000000011L);
        due("ask(0, 2)", x.ask(0, 2), MISSING);
        bind(x, 0, 2, NONE);
        due("ask(0, 2) makes one", x.ask(0, 2), 1);
        due("ask(0, 2) makes another", x.ask(0, 2), 2);
        due("ask: about(2, 1)", x.about(2, 1), 0);
        x.unbind(1, 0);
        due("ask(0, 1) then", x.ask(0, 1), MISSING);
        due("ask(0, 0) still has its value", x.ask(0, 0), 10000000010L);
        bind(x, 1, 3, SINGLE, 101, 1);
        due("ask: get(1, 3)", x.get(1, 3), 3);
        due("ask(3, 0) of a kept one", x.ask(3, 0), 0);
        due("ask(3, 1) of an instance", x.ask(3, 1), 0);
        x.bindConstant(1, 7, 77);
        bind(x, 1, 8, SINGLE, 1, 3, 101, 7);
        due("ask: get(1, 8)", x.get(1, 8), 4);
        due("ask(4, 0)", x.ask(4, 0), 0);
        due("ask(4, 1)", x.ask(4, 1), 3);
        due("ask(4, 2)", x.ask(4, 2), 0);
        due("ask(4, 3)", x.ask(4, 3), 10000000077L);
    }

    private static void askInRequests() {
        InjectorTree x = chainOfInjectors();
        bind(x, 1, 4, REQUEST);
        bind(x, 1, 5, NONE, 104);
        due("ask: get(1, 5)", x.get(1, 5), 0);
        due("ask(0, 0) outside", x.ask(0, 0), OUTSIDE);
        x.open();
        due("ask(0, 0) inside", x.ask(0, 0), 1);
        due("ask(0, 0) inside again", x.ask(0, 0), 1);
        due("ask: close()", x.close(), 1);
        x.open();
        due("ask(0, 0) in a new request", x.ask(0, 0), 2);
    }

    private static void askErrorLeavesAll() {
        InjectorTree x = new InjectorTree();
        bind(x, 0, 0, SINGLE);
        bind(x, 0, 1, NONE, 0, 11);
        bind(x, 0, 2, NONE, 101);
        due("askError: get(0, 2)", x.get(0, 2), 0);
        due("askError: ask(0, 0)", x.ask(0, 0), MISSING);
        due("askError: count(1)", x.count(1), 1);
        due("askError: count(3)", x.count(3), 0);
        due("askError: get(0, 0)", x.get(0, 0), 1);
        fillTo(x, 0, 2, 100);
        x.bindConstant(0, 11, 0);
        due("askError: ask(0, 0) when full", x.ask(0, 0), FULL);
        due("askError: held(0, 0)", x.held(0, 0), 20000000001L);
    }

    private static void askWrong() {
        InjectorTree x = new InjectorTree();
        due("ask(0, 0) of none", x.ask(0, 0), REFUSED);
        bind(x, 0, 0, NONE, 101, 102);
        bind(x, 0, 3, NONE);
        x.get(0, 0);
        x.get(0, 3);
        for (int need : new int[] {-1, 2, 3, 4, Integer.MIN_VALUE, Integer.MAX_VALUE}) {
            due("ask(0, " + need + ")", x.ask(0, need), REFUSED);
            due("held(0, " + need + ")", x.held(0, need), REFUSED);
        }
        due("ask(1, 0) has no needs", x.ask(1, 0), REFUSED);
        due("held(1, 0) has no needs", x.held(1, 0), REFUSED);
        for (int instance : new int[] {-1, 2, 99, 100, Integer.MIN_VALUE, Integer.MAX_VALUE}) {
            due("ask(" + instance + ", 0)", x.ask(instance, 0), REFUSED);
            due("held(" + instance + ", 0)", x.held(instance, 0), REFUSED);
            due("about(" + instance + ", 0)", x.about(instance, 0), REFUSED);
        }
    }

    // Promise 13
    private static void held() {
        InjectorTree x = chainOfInjectors();
        due("held(0, 0) of none", x.held(0, 0), REFUSED);
        x.bindConstant(0, 0, -1);
        bind(x, 2, 1, NONE, 100, 0, 111, 0);
        due("held: get(2, 1)", x.get(2, 1), 0);
        bind(x, 2, 2, SINGLE, 1, 101, 1);
        due("held: get(2, 2)", x.get(2, 2), 3);
        due("held(0, 0)", x.held(0, 0), 20000000032L);
        due("held(0, 1)", x.held(0, 1), 9999999999L);
        due("held(0, 2)", x.held(0, 2), 20000000043L);
        due("held(0, 3)", x.held(0, 3), 9999999999L);
        due("held(3, 0)", x.held(3, 0), 1);
        due("held(3, 1)", x.held(3, 1), 20000000033L);
        due("held(3, 2)", x.held(3, 2), 2);
        due("held makes nothing", x.count(1), 4);
        x.unbind(2, 1);
        x.unbind(2, 2);
        x.unbind(0, 0);
        due("held(0, 1) stays", x.held(0, 1), 9999999999L);
        due("held(3, 2) stays", x.held(3, 2), 2);
    }

    // Promise 14
    private static void about() {
        InjectorTree x = chainOfInjectors();
        due("about(0, 0) of none", x.about(0, 0), REFUSED);
        x.open();
        bind(x, 1, 11, REQUEST, 100, 100, 100);
        bind(x, 2, 4, SINGLE, 11);
        x.get(2, 4);
        long[][] want = {{11, 1, 3, REQUEST}, {4, 2, 1, SINGLE}};
        x.close();
        x.unbind(2, 4);
        for (int instance = 0; instance < 2; instance++) {
            for (int what = 0; what < 4; what++) {
                due("about(" + instance + ", " + what + ")", x.about(instance, what),
                        want[instance][what]);
            }
            for (int what : new int[] {-1, 4, 5, Integer.MIN_VALUE, Integer.MAX_VALUE}) {
                due("about(" + instance + ", " + what + ")", x.about(instance, what), REFUSED);
            }
        }
        due("about(2, 0)", x.about(2, 0), REFUSED);
        due("about(2, 4)", x.about(2, 4), REFUSED);
        due("about(-1, 3)", x.about(-1, 3), REFUSED);
    }

    // Promise 15
    private static void broken() {
        InjectorTree x = chainOfInjectors();
        for (int injector : NEVER_INJECTORS) {
            due("broken(" + injector + ")", x.broken(injector), REFUSED);
        }
        due("broken(1) before 1 is", new InjectorTree().broken(1), REFUSED);
        due("broken(2) without bindings", x.broken(2), 12);
        x.bindLink(0, 11, 10);
        due("broken(0) MISSING", x.broken(0), 11);
        due("broken(2) sees the root's", x.broken(2), 11);
        x.bindConstant(2, 11, 0);
        due("broken(2) sees its own", x.broken(2), 12);
        due("broken(1)", x.broken(1), 11);
        x.bindConstant(2, 10, 0);
        due("broken(1) still", x.broken(1), 11);
        x.bindConstant(0, 10, 0);
        due("broken(1) no more", x.broken(1), 12);
        bind(x, 1, 5, REQUEST);
        bind(x, 2, 3, NONE, 5);
        due("broken(0)", x.broken(0), 12);
        due("broken(1) OUTSIDE", x.broken(1), 5);
        due("broken(2) OUTSIDE", x.broken(2), 3);
        x.open();
        due("broken(2) in a request", x.broken(2), 12);
        bind(x, 0, 0, NONE, 0);
        due("broken(2) CIRCULAR", x.broken(2), 0);
    }

    private static void brokenChangesNothing() {
        InjectorTree x = new InjectorTree();
        x.open();
        bind(x, 0, 0, SINGLE);
        bind(x, 0, 1, REQUEST, 0);
        bind(x, 0, 2, NONE, 1);
        bind(x, 0, 3, SINGLE, 0, 11);
        x.get(0, 0);
        x.need(6, true);
        due("broken(0) is 3", x.broken(0), 3);
        x.bindConstant(0, 11, 0);
        due("broken(0) is none", x.broken(0), 12);
        due("brokenChanges: count(1)", x.count(1), 1);
        due("brokenChanges: count(2)", x.count(2), 5);
        due("brokenChanges: count(3)", x.count(3), 1);
        due("brokenChanges: count(4)", x.count(4), 0);
        due("brokenChanges: drop()", x.drop(), 1);
        due("brokenChanges: get(0, 0)", x.get(0, 0), 0);
        due("brokenChanges: get(0, 2)", x.get(0, 2), 2);
        // Each key is tried on its own: three that each fit in the last place are not broken.
        InjectorTree y = new InjectorTree();
        for (int key = 0; key < 3; key++) {
            bind(y, 0, key, SINGLE);
        }
        bind(y, 0, 3, NONE);
        fillTo(y, 0, 3, 99);
        due("broken(0) at 99", y.broken(0), 12);
        y.get(0, 1);
        due("broken(0) at 100", y.broken(0), 0);
        y.unbind(0, 0);
        due("broken(0) at 100, the kept one is whole", y.broken(0), 2);
    }

    // Promise 16
    private static void reach() {
        InjectorTree x = new InjectorTree();
        for (int key : NO_SUCH_KEYS) {
            due("reach(0, " + key + ")", x.reach(0, key), REFUSED);
        }
        for (int injector : NEVER_INJECTORS) {
            due("reach(" + injector + ", 0)", x.reach(injector, 0), REFUSED);
        }
        due("reach(1, 0) before 1 is", x.reach(1, 0), REFUSED);
        for (int key = 0; key < 12; key++) {
            due("reach(0, " + key + ") unbound", x.reach(0, key), 1 << key);
        }
        x.bindConstant(0, 0, 5);
        due("reach of a constant", x.reach(0, 0), 1);
        x.bindLink(0, 1, 0);
        due("reach of a link", x.reach(0, 1), 3);
        bind(x, 0, 2, SINGLE, 1, 111, 2);
        due("reach of a class, lazy and unbound keys too", x.reach(0, 2), 7 | 1 << 11);
        x.bindLink(0, 11, 10);
        due("reach through a lazy need", x.reach(0, 2), 7 | 3 << 10);
        x.bindLink(0, 10, 11);
        due("reach in a circle", x.reach(0, 10), 3 << 10);
        x.unbind(0, 1);
        due("reach stops at what is unbound", x.reach(0, 2), 6 | 3 << 10);
        bind(x, 0, 3, SINGLE, 104);
        x.get(0, 3);
        due("reach whatever is kept", x.reach(0, 3), 3 << 3);
        due("reach makes nothing", x.count(1), 1);
    }

    private static void reachThroughTheTree() {
        InjectorTree x = chainOfInjectors();
        x.bindLink(0, 0, 1);
        x.bindLink(1, 1, 2);
        x.bindLink(2, 1, 3);
        due("reachTree(2, 0): the link lives in the root", x.reach(2, 0), 3);
        due("reachTree(2, 1)", x.reach(2, 1), 2 | 1 << 3);
        due("reachTree(1, 1)", x.reach(1, 1), 6);
        bind(x, 2, 4, NONE, 0, 101);
        due("reachTree(2, 4)", x.reach(2, 4), 3 | 3 << 3);
        // One key is come to in two injectors, and each goes on elsewhere.
        x.bindLink(0, 1, 5);
        due("reachTree(2, 4) by two ways", x.reach(2, 4), 3 | 7 << 3);
        due("reachTree(2, 4) leaves 1's alone", x.reach(2, 4) & 4, 0);
        x.bindLink(2, 11, 1);
        due("reachTree(2, 11)", x.reach(2, 11), 2 | 1 << 3 | 1 << 11);
    }

    // Promise 17
    private static void home() {
        InjectorTree x = chainOfInjectors();
        for (int key : NO_SUCH_KEYS) {
            due("home(0, " + key + ")", x.home(0, key), REFUSED);
        }
        for (int injector : NEVER_INJECTORS) {
            due("home(" + injector + ", 0)", x.home(injector, 0), REFUSED);
        }
        due("home(1, 0) before 1 is", new InjectorTree().home(1, 0), REFUSED);
        due("home(2, 0) unbound", x.home(2, 0), 3);
        x.bindConstant(0, 0, 0);
        due("home(2, 0)", x.home(2, 0), 0);
        x.bindLink(1, 0, 0);
        due("home(2, 0) of the parent", x.home(2, 0), 1);
        bind(x, 2, 0, NONE);
        due("home(2, 0) of its own", x.home(2, 0), 2);
        due("home(1, 0)", x.home(1, 0), 1);
        due("home(0, 0)", x.home(0, 0), 0);
        due("home(2, 11) unbound", x.home(2, 11), 3);
        x.unbind(1, 0);
        due("home(1, 0) then", x.home(1, 0), 0);
    }

    // Promise 18
    private static void count() {
        InjectorTree x = new InjectorTree();
        for (int what : new int[] {-1, 6, 7, Integer.MIN_VALUE, Integer.MAX_VALUE}) {
            due("count(" + what + ")", x.count(what), REFUSED);
        }
        x.child(0);
        bind(x, 0, 0, SINGLE);
        bind(x, 1, 0, SINGLE, 1);
        bind(x, 0, 1, REQUEST);
        bind(x, 1, 11, NONE, 0);
        x.bindConstant(1, 2, 0);
        x.bindLink(0, 2, 0);
        x.open();
        x.get(1, 11);
        x.get(0, 2);
        int[] want = {2, 4, 6, 2, 1, 1};
        for (int what = 0; what < 6; what++) {
            due("count(" + what + ")", x.count(what), want[what]);
        }
        x.close();
        due("count(4) after close", x.count(4), 0);
        due("count(5) after close", x.count(5), 0);
        x.unbind(1, 0);
        due("count(1) after unbind", x.count(1), 4);
        due("count(2) after unbind", x.count(2), 5);
        due("count(3) after unbind", x.count(3), 1);
    }
}
