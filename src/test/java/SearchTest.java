/** Promises 10 to 15: plan, another, steps, task, found and node. */
public final class SearchTest {
    private static final Due due = new Due();
    private static final int MIN = Integer.MIN_VALUE;
    private static final int MAX = Integer.MAX_VALUE;
    /** Of the trees that wide() makes: 48 tasks are taken, and 1 + 5 + 1 + 1 + 1 methods are tried. */
    private static final int STEPS_OF_48_NODES = 57;

    public static void main(String[] args) {
        fuelIsLookedAt();
        everyStep();
        noMethods();
        emptyMethod();
        endingWhileOpen();
        seeingAPlanTakesNoFuel();
        goingBackRestoresAll();
        goingBackPastNodesWithoutMore();
        anotherOne();
        allPlansOneAfterTheOther();
        anotherWithoutFuel();
        fortyEightNodes();
        fortyNineNodes();
        fullTreeGoesBack();
        planOfManyCosts();
        answersOutsideThePlan();
        searchAndCheckerAreApart();
        due.end();
    }

    private static int methodWith(TaskWeaver x, int task, int need, int lack, int... parts) {
        int method = x.method(task, need, lack);
        for (int part : parts) {
            x.part(method, part);
        }
        return method;
    }

    private static void isNode(String name, TaskWeaver x, int k, int task, int parent, int method) {
        due.is(name + ": task of node " + k, x.node(k, 0), task);
        due.is(name + ": parent of node " + k, x.node(k, 1), parent);
        due.is(name + ": method of node " + k, x.node(k, 2), method);
    }

    private static void noNode(String name, TaskWeaver x, int k) {
        isNode(name + " (no such node)", x, k, TaskWeaver.NONE, TaskWeaver.NONE, TaskWeaver.NONE);
    }

    private static void fuelIsLookedAt() {
        TaskWeaver x = new TaskWeaver();
        x.primitive(0, 0, 0, 0, 0);
        x.aim(0);
        for (int bad : new int[] {-1, 5001, MIN, MAX}) {
            due.is("plan(" + bad + ")", x.plan(bad), TaskWeaver.NONE);
            due.is("another(" + bad + ") without a search", x.another(bad), TaskWeaver.NONE);
        }
        due.is("steps behind bad fuel", x.steps(), 0);
        due.is("another(0) without a search", x.another(0), TaskWeaver.NONE);
        due.is("plan(5000)", x.plan(5000), TaskWeaver.FOUND);
        for (int bad : new int[] {-1, 5001, MIN, MAX}) {
            due.is("plan(" + bad + ") with a plan", x.plan(bad), TaskWeaver.NONE);
            due.is("another(" + bad + ") with a plan", x.another(bad), TaskWeaver.NONE);
        }
        due.is("the plan is still there", x.found(0), 1);
        due.is("another(5000)", x.another(5000), TaskWeaver.END);
    }

    /** Aims 16 and 0; 16 has a method that does not hold, one that leads to a failing, and a good one. */
    private static TaskWeaver small() {
        TaskWeaver x = new TaskWeaver();
        x.primitive(0, 0, 1, 0, 10);
        x.primitive(2, 0, 4, 0, 20);
        x.compound();
        methodWith(x, 16, 8, 0);
        methodWith(x, 16, 0, 0, 0, 1);
        methodWith(x, 16, 0, 1, 0);
        x.aim(16);
        x.aim(0);
        return x;
    }

    private static void everyStep() {
        TaskWeaver x = small();
        due.is("step 0", x.plan(0), TaskWeaver.MORE);
        noNode("step 0", x, 0);
        due.is("step 1, the task is taken", x.plan(1), TaskWeaver.MORE);
        isNode("step 1", x, 0, 16, TaskWeaver.NONE, TaskWeaver.NONE);
        noNode("step 1", x, 1);
        due.is("step 2, the first method does not hold", x.plan(1), TaskWeaver.MORE);
        isNode("step 2", x, 0, 16, TaskWeaver.NONE, TaskWeaver.NONE);
        due.is("step 3, the second one is kept", x.plan(1), TaskWeaver.MORE);
        isNode("step 3", x, 0, 16, TaskWeaver.NONE, 1);
        noNode("step 3", x, 1);
        due.is("step 4, a primitive one is done", x.plan(1), TaskWeaver.MORE);
        isNode("step 4", x, 1, 0, 0, TaskWeaver.NONE);
        due.is("step 5, the next one fails", x.plan(1), TaskWeaver.MORE);
        isNode("step 5", x, 0, 16, TaskWeaver.NONE, TaskWeaver.NONE);
        noNode("step 5", x, 1);
        due.is("step 6, the third method is kept", x.plan(1), TaskWeaver.MORE);
        isNode("step 6", x, 0, 16, TaskWeaver.NONE, 2);
        due.is("steps", x.steps(), 6);
        due.is("no plan yet", x.found(0), TaskWeaver.NONE);
        due.is("no task of a plan yet", x.task(0), TaskWeaver.NONE);
        due.is("step 7", x.plan(1), TaskWeaver.MORE);
        due.is("plan(0) makes no step", x.plan(0), TaskWeaver.MORE);
        due.is("step 8", x.plan(1), TaskWeaver.FOUND);
        isNode("step 8", x, 1, 0, 0, TaskWeaver.NONE);
        isNode("step 8", x, 2, 0, TaskWeaver.NONE, TaskWeaver.NONE);
        noNode("step 8", x, 3);
        due.is("steps when found", x.steps(), 8);
        due.is("found again", x.plan(100), TaskWeaver.FOUND);
        due.is("found again takes no step", x.steps(), 8);
        due.is("no other", x.another(100), TaskWeaver.END);
        due.is("steps stay at the end", x.steps(), 8);
        noNode("the end", x, 0);
    }

    private static void noMethods() {
        TaskWeaver x = new TaskWeaver();
        x.compound();
        x.aim(16);
        due.is("no methods: plan(0)", x.plan(0), TaskWeaver.MORE);
        due.is("no methods: plan(1)", x.plan(1), TaskWeaver.END);
        due.is("no methods: steps", x.steps(), 1);
        noNode("no methods", x, 0);
        due.is("no methods: the end again", x.plan(0), TaskWeaver.END);
        due.is("no methods: no more steps", x.steps(), 1);
        due.is("no methods: another", x.another(5), TaskWeaver.NONE);
    }

    private static void emptyMethod() {
        TaskWeaver x = new TaskWeaver();
        x.compound();
        x.method(16, 0, 0);
        x.aim(16);
        x.start(9);
        due.is("no parts: plan(1)", x.plan(1), TaskWeaver.MORE);
        due.is("no parts: an open node is no plan", x.found(0), TaskWeaver.NONE);
        due.is("no parts: plan(0) while it is open", x.plan(0), TaskWeaver.MORE);
        due.is("no parts: plan(1)", x.plan(1), TaskWeaver.FOUND);
        due.is("no parts: length", x.found(0), 0);
        due.is("no parts: cost", x.found(1), 0);
        due.is("no parts: facts", x.found(2), 9);
        due.is("no parts: nodes", x.found(3), 1);
        due.is("no parts: task", x.task(0), TaskWeaver.NONE);
        isNode("no parts", x, 0, 16, TaskWeaver.NONE, 0);
    }

    private static void endingWhileOpen() {
        TaskWeaver x = new TaskWeaver();
        x.primitive(0, 0, 0, 0, 0);
        x.compound();
        methodWith(x, 16, 1, 0);
        methodWith(x, 16, 2, 0);
        x.aim(16);
        due.is("no method holds: plan(2)", x.plan(2), TaskWeaver.MORE);
        isNode("no method holds", x, 0, 16, TaskWeaver.NONE, TaskWeaver.NONE);
        due.is("no method holds: plan(1)", x.plan(1), TaskWeaver.END);
        due.is("no method holds: steps", x.steps(), 3);
        noNode("no method holds", x, 0);
        x.forget();
        x.aim(0);
        due.is("a new search behind an end: plan(1)", x.plan(1), TaskWeaver.FOUND);
        isNode("a new search behind an end", x, 0, 0, TaskWeaver.NONE, TaskWeaver.NONE);
        x.aim(16);
        due.is("open when the domain changes", x.plan(2), TaskWeaver.MORE);
        x.forget();
        due.is("a new search behind an open node", x.plan(0), TaskWeaver.FOUND);
        due.is("a new search behind an open node: nodes", x.found(3), 0);
    }

    private static void seeingAPlanTakesNoFuel() {
        TaskWeaver x = new TaskWeaver();
        x.primitive(0, 0, 0, 0, 0);
        x.aim(0);
        x.aim(0);
        due.is("two tasks: plan(1)", x.plan(1), TaskWeaver.MORE);
        due.is("two tasks: plan(1) again", x.plan(1), TaskWeaver.FOUND);
        x.forget();
        x.aim(0);
        x.aim(0);
        due.is("two tasks: plan(2)", x.plan(2), TaskWeaver.FOUND);
    }

    private static void goingBackRestoresAll() {
        TaskWeaver x = new TaskWeaver();
        x.primitive(0, 0, 2, 1, 1);
        x.primitive(1, 2, 8, 0, 2);
        x.primitive(16, 0, 0, 0, 3);
        x.compound();
        x.compound();
        methodWith(x, 16, 0, 0, 0, 17, 2);
        methodWith(x, 16, 1, 2, 1, 17);
        methodWith(x, 17, 0, 0);
        x.start(5);
        x.aim(16);
        x.aim(1);
        due.is("going back: plan", x.plan(100), TaskWeaver.FOUND);
        due.is("going back: steps", x.steps(), 2 + 1 + 2 + 1 + 1 + 1 + 2 + 1);
        due.is("going back: the facts are those from before", x.found(2), 13);
        due.is("going back: the costs of what is left", x.found(1), 4);
        due.is("going back: nodes", x.found(3), 4);
        isNode("going back", x, 0, 16, TaskWeaver.NONE, 1);
        isNode("going back", x, 1, 1, 0, TaskWeaver.NONE);
        isNode("going back", x, 2, 17, 0, 2);
        isNode("going back", x, 3, 1, TaskWeaver.NONE, TaskWeaver.NONE);
    }

    private static void goingBackPastNodesWithoutMore() {
        TaskWeaver x = new TaskWeaver();
        x.primitive(1, 0, 0, 0, 0);
        x.primitive(0, 0, 1, 0, 0);
        x.compound();
        x.compound();
        methodWith(x, 16, 0, 0);
        methodWith(x, 16, 0, 0, 1);
        methodWith(x, 17, 0, 0);
        x.aim(16);
        x.aim(17);
        x.aim(0);
        due.is("past 17: until the failing", x.plan(5), TaskWeaver.MORE);
        isNode("past 17", x, 0, 16, TaskWeaver.NONE, TaskWeaver.NONE);
        noNode("past 17", x, 1);
        due.is("past 17: the plan", x.plan(5), TaskWeaver.FOUND);
        due.is("past 17: steps", x.steps(), 10);
        due.is("past 17: first task", x.task(0), 1);
        due.is("past 17: second task", x.task(1), 0);
        due.is("past 17: no third task", x.task(2), TaskWeaver.NONE);
    }

    private static void anotherOne() {
        TaskWeaver x = new TaskWeaver();
        for (int i = 0; i < 4; i++) {
            x.primitive(0, 0, 1 << i, 0, i + 1);
        }
        x.compound();
        methodWith(x, 16, 0, 0, 0);
        methodWith(x, 16, 0, 1, 1);
        x.aim(16);
        x.aim(16);
        due.is("first plan", x.plan(6), TaskWeaver.FOUND);
        due.is("first plan: facts", x.found(2), 1);
        due.is("second method lacks what is there", x.another(0), TaskWeaver.MORE);
        isNode("reopened", x, 2, 16, TaskWeaver.NONE, TaskWeaver.NONE);
        due.is("this failing takes no step", x.steps(), 6);
        due.is("no plan while it looks", x.found(0), TaskWeaver.NONE);
        due.is("no task while it looks", x.task(0), TaskWeaver.NONE);
        due.is("another while it looks", x.another(5), TaskWeaver.NONE);
        due.is("plan goes on", x.plan(5), TaskWeaver.MORE);
        due.is("steps are counted on", x.steps(), 11);
        due.is("second plan", x.plan(1), TaskWeaver.FOUND);
        due.is("second plan: first task", x.task(0), 1);
        due.is("second plan: second task", x.task(1), 0);
        due.is("second plan: steps", x.steps(), 12);
        due.is("third plan", x.another(2), TaskWeaver.FOUND);
        due.is("third plan: facts", x.found(2), 2);
        due.is("no fourth", x.another(0), TaskWeaver.END);
        due.is("no fourth: steps", x.steps(), 14);
    }

    private static void allPlansOneAfterTheOther() {
        TaskWeaver x = new TaskWeaver();
        for (int i = 0; i < 3; i++) {
            x.primitive(0, 0, 0, 0, 0);
        }
        x.compound();
        for (int i = 0; i < 3; i++) {
            methodWith(x, 16, 0, 0, i);
        }
        x.aim(16);
        x.aim(16);
        x.aim(16);
        int answer = x.plan(5000);
        for (int i = 0; i < 27; i++) {
            due.is("plan " + i, answer, TaskWeaver.FOUND);
            due.is("plan " + i + ": first", x.task(0), i / 9);
            due.is("plan " + i + ": second", x.task(1), i / 3 % 3);
            due.is("plan " + i + ": third", x.task(2), i % 3);
            answer = x.another(5000);
        }
        due.is("no 28th plan", answer, TaskWeaver.END);
        due.is("no 28th plan: steps", x.steps(), (1 + 2 * 3) * (1 + 3 + 9));
        due.is("another at the end", x.another(5), TaskWeaver.NONE);
    }

    private static void anotherWithoutFuel() {
        TaskWeaver x = new TaskWeaver();
        x.compound();
        x.method(16, 0, 0);
        x.method(16, 1, 0);
        x.method(16, 0, 0);
        x.aim(16);
        due.is("plan(2)", x.plan(2), TaskWeaver.FOUND);
        due.is("another(1), a method that does not hold", x.another(1), TaskWeaver.MORE);
        due.is("plan(1), the third method", x.plan(1), TaskWeaver.FOUND);
        isNode("third method", x, 0, 16, TaskWeaver.NONE, 2);
        due.is("another, no method is behind", x.another(0), TaskWeaver.END);
        due.is("steps", x.steps(), 4);
    }

    /** Aims whose tree has 31 + 6 + 6 + 1 nodes, and the parts of 18, the last aim. */
    private static TaskWeaver wide(int partsOfLast) {
        TaskWeaver x = new TaskWeaver();
        x.primitive(0, 0, 0, 0, 2);
        x.compound();
        x.compound();
        x.compound();
        methodWith(x, 16, 0, 0, 17, 17, 17, 17, 17);
        methodWith(x, 17, 0, 0, 0, 0, 0, 0, 0);
        methodWith(x, 18, 0, 0, new int[partsOfLast]);
        x.aim(16);
        x.aim(17);
        x.aim(17);
        x.aim(18);
        return x;
    }

    private static void fortyEightNodes() {
        TaskWeaver x = wide(4);
        due.is("48 nodes", x.plan(5000), TaskWeaver.FOUND);
        due.is("48 nodes: nodes", x.found(3), 48);
        due.is("48 nodes: plan", x.found(0), 25 + 5 + 5 + 4);
        due.is("48 nodes: cost", x.found(1), 2 * (25 + 5 + 5 + 4));
        due.is("48 nodes: steps", x.steps(), STEPS_OF_48_NODES);
        isNode("48 nodes", x, 47, 0, 43, TaskWeaver.NONE);
        for (int bad : new int[] {48, -1, MIN, MAX}) {
            noNode("48 nodes", x, bad);
        }
    }

    private static void fortyNineNodes() {
        TaskWeaver x = wide(5);
        due.is("49 nodes: when 48 are there", x.plan(STEPS_OF_48_NODES), TaskWeaver.MORE);
        isNode("49 nodes", x, 47, 0, 43, TaskWeaver.NONE);
        due.is("49 nodes: one is too many", x.plan(1), TaskWeaver.END);
        due.is("49 nodes: the failing belongs to a step", x.steps(), STEPS_OF_48_NODES + 1);
        noNode("49 nodes", x, 0);
    }

    private static void fullTreeGoesBack() {
        TaskWeaver x = wide(5);
        methodWith(x, 18, 0, 0, 0);
        due.is("back from a full tree", x.plan(STEPS_OF_48_NODES + 1), TaskWeaver.MORE);
        isNode("back from a full tree", x, 43, 18, TaskWeaver.NONE, TaskWeaver.NONE);
        noNode("back from a full tree", x, 44);
        due.is("back from a full tree: the other way", x.plan(2), TaskWeaver.FOUND);
        due.is("back from a full tree: nodes", x.found(3), 45);
    }

    private static void planOfManyCosts() {
        TaskWeaver x = new TaskWeaver();
        x.primitive(0, 0, 0, 0, 100);
        x.compound();
        x.compound();
        methodWith(x, 16, 0, 0, 17, 17, 17, 17, 17);
        methodWith(x, 17, 0, 0, 0, 0, 0, 0, 0);
        x.aim(16);
        due.is("costs: plan", x.plan(5000), TaskWeaver.FOUND);
        due.is("costs: the sum", x.found(1), 2500);
        due.is("costs: last task", x.task(24), 0);
        due.is("costs: no task behind", x.task(25), TaskWeaver.NONE);
    }

    private static void answersOutsideThePlan() {
        TaskWeaver x = small();
        x.plan(5000);
        for (int bad : new int[] {-1, 4, MIN, MAX}) {
            due.is("found(" + bad + ")", x.found(bad), TaskWeaver.NONE);
        }
        for (int bad : new int[] {-1, 3, MIN, MAX}) {
            due.is("node(0, " + bad + ")", x.node(0, bad), TaskWeaver.NONE);
        }
        for (int bad : new int[] {-1, 2, MIN, MAX}) {
            due.is("task(" + bad + ")", x.task(bad), TaskWeaver.NONE);
        }
        due.is("found(0)", x.found(0), 2);
        due.is("found(1)", x.found(1), 20);
        due.is("found(2)", x.found(2), 1);
        due.is("found(3)", x.found(3), 3);
    }

    private static void searchAndCheckerAreApart() {
        TaskWeaver x = small();
        x.plan(4);
        x.check();
        x.told(16, 2);
        x.told(0, 0);
        due.is("the checker makes no step", x.steps(), 4);
        isNode("the checker leaves the tree", x, 1, 0, 0, TaskWeaver.NONE);
        due.is("the search goes on", x.plan(4), TaskWeaver.FOUND);
        due.is("the checker goes on", x.left(), 1);
    }
}
