/** The terms of a search: its steps, its tree, going back, and its end. */
public final class SearchTest {
    private static final Due due = new Due();
    private static final Tree tree = new Tree(due);
    private static final int NONE = TaskWeaver.NONE;

    public static void main(String[] args) {
        atFirst();
        noneIsToBeDone();
        everyStep();
        parents();
        aPrimitiveTaskFails();
        aCompoundTaskWithoutMethodsFails();
        theLastMethodDoesNotHold();
        partsComeBeforeAllOthers();
        aMethodIsTriedInTheFactsThatThereAre();
        goingBackRestoresAll();
        goingBackPassesNodesWithoutMore();
        goingBackTwiceFromOneStep();
        theEndHasAnEmptyTree();
        theFortyEighthNodeIsTaken();
        theFortyNinthFails();
        aFullTreeGoesBack();
        aFullTreeGoesBackToItsLastNode();
        due.end();
    }

    /** "the aims at first, facts, those at the start at first, and a TREE, empty at first" */
    private static void atFirst() {
        TaskWeaver x = new TaskWeaver();
        x.primitive(5, Edges.ALL_BITS - 5, 0, 0, 0);
        x.start(5);
        x.aim(0);
        due.is("at first: plan(0)", x.plan(0), TaskWeaver.MORE);
        tree.hasCount("at first", x, 0);
        due.is("at first: the facts at the start are there", x.plan(1), TaskWeaver.FOUND);
        tree.hasCount("behind the first step", x, 1);
    }

    /** "If none is to be done, it has FOUND a plan": without aims, behind the last one, and behind an empty method. */
    private static void noneIsToBeDone() {
        due.is("without aims: plan(0)", new TaskWeaver().plan(0), TaskWeaver.FOUND);
        TaskWeaver x = Domains.compounds(1);
        Domains.idlePrimitives(x, 1);
        Domains.method(x, 16);
        Domains.aims(x, 0, 16);
        due.is("two aims: plan(1)", x.plan(1), TaskWeaver.MORE);
        due.is("two aims: plan(1), the last one is open", x.plan(1), TaskWeaver.MORE);
        due.is("two aims: none is in the row, but one is open", x.plan(0), TaskWeaver.MORE);
        due.is("two aims: no plan while it is open", x.found(0), NONE);
        due.is("two aims: plan(1), its method has no parts", x.plan(1), TaskWeaver.FOUND);
    }

    /** "A step is to take a task (with doing it, or opening its node), or to try one method". */
    private static void everyStep() {
        TaskWeaver x = Domains.small();
        due.is("step 1, the task is taken", x.plan(1), TaskWeaver.MORE);
        tree.hasAim("step 1", x, 0, 16);
        tree.hasCount("step 1", x, 1);
        due.is("step 2, the first method does not hold", x.plan(1), TaskWeaver.MORE);
        tree.hasAim("step 2", x, 0, 16);
        tree.hasCount("step 2", x, 1);
        due.is("step 3, the second one is kept", x.plan(1), TaskWeaver.MORE);
        tree.hasNode("step 3", x, 0, 16, NONE, 1);
        tree.hasCount("step 3", x, 1);
        due.is("step 4, a primitive one is done", x.plan(1), TaskWeaver.MORE);
        tree.hasNode("step 4", x, 1, 0, 0, NONE);
        tree.hasCount("step 4", x, 2);
        due.is("step 5, the next one fails", x.plan(1), TaskWeaver.MORE);
        tree.hasAim("step 5", x, 0, 16);
        tree.hasCount("step 5", x, 1);
        due.is("step 6, the third method is kept", x.plan(1), TaskWeaver.MORE);
        tree.hasNode("step 6", x, 0, 16, NONE, 2);
        due.is("step 7, its part is done", x.plan(1), TaskWeaver.MORE);
        due.is("step 8, the second aim is done", x.plan(1), TaskWeaver.FOUND);
        tree.hasNode("step 8", x, 1, 0, 0, NONE);
        tree.hasAim("step 8", x, 2, 0);
        tree.hasCount("step 8", x, 3);
        due.is("steps", x.steps(), 8);
    }

    /** "its PARENT is the node of which it is a part, none for an aim" */
    private static void parents() {
        TaskWeaver x = Domains.compounds(3);
        Domains.idlePrimitives(x, 1);
        Domains.method(x, 16, 17, 0);
        Domains.method(x, 17, 18, 18);
        Domains.method(x, 18, 0);
        Domains.aims(x, 16, 18, 0);
        due.is("parents: plan", x.plan(5000), TaskWeaver.FOUND);
        int[] parents = {NONE, 0, 1, 2, 1, 4, 0, NONE, 7, NONE};
        for (int k = 0; k < parents.length; k++) {
            due.is("parent of node " + k, x.node(k, 1), parents[k]);
        }
        due.is("parents: nodes", x.found(3), parents.length);
    }

    /** "A primitive one is done, if its condition holds, otherwise it fails." */
    private static void aPrimitiveTaskFails() {
        TaskWeaver x = new TaskWeaver();
        x.primitive(1, 0, 0, 0, 0);
        x.aim(0);
        due.is("a primitive task fails: plan(1)", x.plan(1), TaskWeaver.END);
        due.is("a primitive task fails: in one step", x.steps(), 1);
        x.start(1);
        due.is("a primitive task is done: plan(1)", x.plan(1), TaskWeaver.FOUND);
    }

    /** "(it fails, if it has none)", in the step that takes it, and goes back from there. */
    private static void aCompoundTaskWithoutMethodsFails() {
        TaskWeaver x = Domains.compounds(2);
        x.aim(17);
        due.is("no methods: plan(1)", x.plan(1), TaskWeaver.END);
        due.is("no methods: in one step", x.steps(), 1);
        Domains.method(x, 16, 17);
        Domains.method(x, 16);
        x.forget();
        x.aim(16);
        due.is("no methods of a part: plan(3)", x.plan(3), TaskWeaver.MORE);
        tree.hasAim("no methods of a part", x, 0, 16);
        tree.hasCount("no methods of a part", x, 1);
        due.is("no methods of a part: the other way", x.plan(1), TaskWeaver.FOUND);
    }

    /** "otherwise it is open at the next method, and fails, if there is none" */
    private static void theLastMethodDoesNotHold() {
        TaskWeaver x = Domains.compounds(1);
        for (int i = 0; i < 5; i++) {
            Domains.methodIf(x, 16, 1 << i, 0);
        }
        x.aim(16);
        for (int i = 1; i <= 5; i++) {
            due.is("no method holds: step " + i, x.plan(1), TaskWeaver.MORE);
            tree.hasAim("no method holds: step " + i, x, 0, 16);
        }
        due.is("no method holds: step 6", x.plan(1), TaskWeaver.END);
        tree.hasCount("no method holds: step 6", x, 0);
        x.start(16);
        due.is("the last method holds: plan(5)", x.plan(5), TaskWeaver.MORE);
        due.is("the last method holds: plan(1)", x.plan(1), TaskWeaver.FOUND);
        due.is("the last method holds", x.node(0, 2), 4);
    }

    /** "its parts come before all others in the row, in their order" */
    private static void partsComeBeforeAllOthers() {
        TaskWeaver x = Domains.compounds(2);
        Domains.idlePrimitives(x, 9);
        Domains.method(x, 16, 1, 17, 2);
        Domains.method(x, 17, 3, 4, 5, 6, 7);
        Domains.aims(x, 0, 16, 8);
        due.is("order: plan", x.plan(5000), TaskWeaver.FOUND);
        int[] order = {0, 1, 3, 4, 5, 6, 7, 2, 8};
        for (int k = 0; k < order.length; k++) {
            due.is("order: task(" + k + ")", x.task(k), order[k]);
        }
        due.is("order: tasks", x.found(0), order.length);
    }

    /** "if that one's condition holds in the facts that there are" */
    private static void aMethodIsTriedInTheFactsThatThereAre() {
        TaskWeaver x = Domains.compounds(1);
        x.primitive(0, 0, 2, 1, 0);
        Domains.methodIf(x, 16, 1, 0);
        Domains.methodIf(x, 16, 2, 1);
        x.start(1);
        Domains.aims(x, 16, 0, 16);
        due.is("facts that there are: plan", x.plan(6), TaskWeaver.FOUND);
        due.is("facts that there are: the first 16", x.node(0, 2), 0);
        due.is("facts that there are: the second 16", x.node(2, 2), 1);
    }

    /** "all is as it was when it tried, the nodes behind it are no more, and it is open at the next method" */
    private static void goingBackRestoresAll() {
        TaskWeaver x = Domains.compounds(2);
        x.primitive(0, 0, 2, 1, 1);
        x.primitive(1, 2, 8, 0, 2);
        x.primitive(16, 0, 0, 0, 3);
        Domains.methodIf(x, 16, 0, 0, 0, 17, 2);
        Domains.methodIf(x, 16, 1, 2, 1, 17);
        Domains.methodIf(x, 17, 0, 0);
        x.start(5);
        Domains.aims(x, 16, 1);
        due.is("going back: until the failing", x.plan(6), TaskWeaver.MORE);
        tree.hasAim("going back", x, 0, 16);
        tree.hasCount("going back", x, 1);
        due.is("going back: plan", x.plan(100), TaskWeaver.FOUND);
        due.is("going back: steps", x.steps(), 2 + 1 + 2 + 1 + 1 + 1 + 2 + 1);
        due.is("going back: the facts are those from before", x.found(2), 13);
        due.is("going back: the costs of what is left", x.found(1), 4);
        due.is("going back: nodes", x.found(3), 4);
        tree.hasNode("going back", x, 0, 16, NONE, 1);
        tree.hasNode("going back", x, 1, 1, 0, NONE);
        tree.hasNode("going back", x, 2, 17, 0, 2);
        tree.hasAim("going back", x, 3, 1);
    }

    /** "the one that was kept last, and whose compound task has a method behind its own" */
    private static void goingBackPassesNodesWithoutMore() {
        TaskWeaver x = Domains.compounds(3);
        x.primitive(1, 0, 0, 0, 0);
        x.primitive(0, 0, 1, 0, 0);
        Domains.method(x, 16);
        Domains.method(x, 16, 1);
        Domains.method(x, 17);
        Domains.method(x, 17);
        Domains.method(x, 18);
        Domains.aims(x, 16, 17, 18, 0);
        due.is("past 18: until the failing", x.plan(7), TaskWeaver.MORE);
        tree.hasNode("past 18", x, 0, 16, NONE, 0);
        tree.hasAim("past 18", x, 1, 17);
        tree.hasCount("past 18", x, 2);
        due.is("past 17 and 18: until the failing", x.plan(4), TaskWeaver.MORE);
        tree.hasAim("past 17 and 18", x, 0, 16);
        tree.hasCount("past 17 and 18", x, 1);
        due.is("past 17 and 18: before the last task", x.plan(6), TaskWeaver.MORE);
        due.is("past 17 and 18: the plan", x.plan(1), TaskWeaver.FOUND);
        due.is("past 17 and 18: first task", x.task(0), 1);
        due.is("past 17 and 18: second task", x.task(1), 0);
        due.is("past 17 and 18: 17 begins with its first method again", x.node(2, 2), 2);
    }

    /** "a failing belongs to the step in which it comes": an open node without more goes back to its parent at once. */
    private static void goingBackTwiceFromOneStep() {
        TaskWeaver x = Domains.compounds(3);
        Domains.method(x, 16, 17);
        Domains.method(x, 16);
        Domains.method(x, 17, 18);
        Domains.methodIf(x, 18, 1, 0);
        x.aim(16);
        due.is("back by two: plan(6)", x.plan(6), TaskWeaver.MORE);
        due.is("back by two: steps", x.steps(), 6);
        tree.hasAim("back by two", x, 0, 16);
        tree.hasCount("back by two", x, 1);
        due.is("back by two: plan(1)", x.plan(1), TaskWeaver.FOUND);
    }

    /** "If there is none such, the search is at its END, and its tree is empty." */
    private static void theEndHasAnEmptyTree() {
        TaskWeaver x = Domains.compounds(1);
        x.primitive(1, 0, 0, 0, 0);
        x.primitive(0, 0, 0, 0, 0);
        Domains.method(x, 16, 1, 1, 1);
        Domains.aims(x, 1, 16, 0);
        due.is("before the end: plan(6)", x.plan(6), TaskWeaver.MORE);
        tree.hasCount("before the end", x, 5);
        due.is("the end: plan(1)", x.plan(1), TaskWeaver.END);
        tree.hasCount("the end", x, 0);
        due.is("the end again: plan(5000)", x.plan(5000), TaskWeaver.END);
        tree.hasCount("the end again", x, 0);
        due.is("the end: steps", x.steps(), 7);
    }

    /** "If the tree has 48 nodes already": it has 47 then, and a primitive or a compound task may still be taken. */
    private static void theFortyEighthNodeIsTaken() {
        TaskWeaver x = Domains.wide(0, 0, 0, 0);
        due.is("48 nodes: plan", x.plan(Domains.STEPS_OF_48_NODES - 1), TaskWeaver.MORE);
        tree.hasCount("47 nodes", x, 47);
        due.is("48 nodes: plan(1)", x.plan(1), TaskWeaver.FOUND);
        tree.hasNode("48 nodes", x, 47, 0, 43, NONE);
        due.is("48 nodes: found(3)", x.found(3), 48);
        x = Domains.wide(0, 0, 0, 19);
        due.is("a compound 48th: plan", x.plan(Domains.STEPS_OF_48_NODES), TaskWeaver.MORE);
        tree.hasNode("a compound 48th is open", x, 47, 19, 43, NONE);
        due.is("a compound 48th: plan(1)", x.plan(1), TaskWeaver.FOUND);
        tree.hasNode("a compound 48th is kept", x, 47, 19, 43, 3);
    }

    /** "If the tree has 48 nodes already, it fails.", whether it is a primitive task, a compound one, or an aim. */
    private static void theFortyNinthFails() {
        for (int last : new int[] {0, 19}) {
            TaskWeaver x = Domains.wide(0, 0, 0, 0, last);
            isFullAndFails("a 49th node of " + last, x);
        }
        TaskWeaver x = Domains.wide(0, 0, 0, 0);
        x.aim(0);
        isFullAndFails("an aim as a 49th node", x);
    }

    private static void isFullAndFails(String name, TaskWeaver x) {
        due.is(name + ": plan", x.plan(Domains.STEPS_OF_48_NODES), TaskWeaver.MORE);
        tree.hasNode(name, x, 47, 0, 43, NONE);
        due.is(name + ": plan(1)", x.plan(1), TaskWeaver.END);
        due.is(name + ": steps", x.steps(), Domains.STEPS_OF_48_NODES + 1);
        tree.hasCount(name, x, 0);
    }

    private static void aFullTreeGoesBack() {
        TaskWeaver x = Domains.wide(0, 0, 0, 0, 0);
        Domains.method(x, 18, 0);
        due.is("back from a full tree: plan", x.plan(Domains.STEPS_OF_48_NODES + 1), TaskWeaver.MORE);
        tree.hasAim("back from a full tree", x, 43, 18);
        tree.hasCount("back from a full tree", x, 44);
        due.is("back from a full tree: the other way", x.plan(2), TaskWeaver.FOUND);
        due.is("back from a full tree: nodes", x.found(3), 45);
    }

    /** The 48th node itself is the one to which the 49th goes back. */
    private static void aFullTreeGoesBackToItsLastNode() {
        TaskWeaver x = Domains.wide(0, 0, 0);
        x.compound();
        Domains.method(x, 20, 0);
        Domains.method(x, 20);
        x.part(2, 20);
        due.is("the 48th is open: plan", x.plan(Domains.STEPS_OF_48_NODES), TaskWeaver.MORE);
        tree.hasNode("the 48th is open", x, 47, 20, 43, NONE);
        due.is("the 48th is kept: plan(1)", x.plan(1), TaskWeaver.MORE);
        tree.hasNode("the 48th is kept", x, 47, 20, 43, 4);
        due.is("its part is the 49th: plan(1)", x.plan(1), TaskWeaver.MORE);
        tree.hasNode("the 48th is open again", x, 47, 20, 43, NONE);
        due.is("its other method has no parts: plan(1)", x.plan(1), TaskWeaver.FOUND);
        tree.hasNode("the 48th is kept again", x, 47, 20, 43, 5);
    }
}
