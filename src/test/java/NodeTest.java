/** Promise 15: node. */
public final class NodeTest {
    private static final Due due = new Due();
    private static final Tree tree = new Tree(due);
    private static final int NONE = TaskWeaver.NONE;

    public static void main(String[] args) {
        taskParentAndMethod();
        anAimThatIsOpen();
        aPartThatIsOpen();
        noSuchNode();
        anotherWhat();
        withoutASearch();
        asItIsNow();
        theFullTree();
        aParentFarBefore();
        theEndHasNoNodes();
        askingChangesNothing();
        due.end();
    }

    /** "its task (0), its parent (1, NONE for an aim), its method's number (2, NONE for a primitive one ...)" */
    private static void taskParentAndMethod() {
        TaskWeaver x = Domains.compounds(2);
        Domains.idlePrimitives(x, 2);
        Domains.method(x, 17, 1);
        Domains.method(x, 16, 0, 17);
        Domains.aims(x, 0, 16, 17);
        x.plan(5000);
        tree.hasNode("tree", x, 0, 0, NONE, NONE);
        tree.hasNode("tree", x, 1, 16, NONE, 1);
        tree.hasNode("tree", x, 2, 0, 1, NONE);
        tree.hasNode("tree", x, 3, 17, 1, 0);
        tree.hasNode("tree", x, 4, 1, 3, NONE);
        tree.hasNode("tree", x, 5, 17, NONE, 0);
        tree.hasNode("tree", x, 6, 1, 5, NONE);
        tree.hasCount("tree", x, 7);
    }

    /** "NONE ... when it is open": at its first method, at a later one, and when it is open again. */
    private static void anAimThatIsOpen() {
        TaskWeaver x = Domains.small();
        x.plan(1);
        tree.hasNode("open at the first method", x, 0, 16, NONE, NONE);
        x.plan(1);
        tree.hasNode("open at the second method", x, 0, 16, NONE, NONE);
        x.plan(1);
        tree.hasNode("kept with the second method", x, 0, 16, NONE, 1);
        x.plan(2);
        tree.hasNode("open again", x, 0, 16, NONE, NONE);
        x.plan(1);
        tree.hasNode("kept with the third method", x, 0, 16, NONE, 2);
    }

    /** The nodes before one that is open stay kept. */
    private static void aPartThatIsOpen() {
        TaskWeaver x = Domains.compounds(2);
        Domains.method(x, 16, 17);
        Domains.method(x, 17);
        x.aim(16);
        x.plan(3);
        tree.hasNode("a part is open", x, 0, 16, NONE, 0);
        tree.hasNode("a part is open", x, 1, 17, 0, NONE);
        x.plan(1);
        tree.hasNode("a part is kept", x, 0, 16, NONE, 0);
        tree.hasNode("a part is kept", x, 1, 17, 0, 1);
    }

    /** "NONE when there is none such" */
    private static void noSuchNode() {
        TaskWeaver x = Domains.small();
        x.plan(5000);
        due.is("the last node", x.node(2, 0), 0);
        for (int k : new int[] {3, 4, 47, 48, 49, -1, -3, Edges.MIN, Edges.MAX, Edges.MIN + 1, 65536}) {
            tree.hasNone("a tree of 3", x, k);
        }
    }

    /** "for another what" */
    private static void anotherWhat() {
        TaskWeaver x = Domains.small();
        x.plan(5000);
        for (int what : new int[] {-1, 3, 4, -2, Edges.MIN, Edges.MAX, Edges.MIN + 1, 65536}) {
            for (int k = -1; k <= 3; k++) {
                due.is("node(" + k + ", " + what + ")", x.node(k, what), NONE);
            }
        }
    }

    /** "or without a search" */
    private static void withoutASearch() {
        TaskWeaver x = Domains.small();
        isWithoutNodes("no search yet", x);
        x.check();
        x.told(16, 2);
        isWithoutNodes("the checker has no nodes", x);
        x.plan(5000);
        x.start(0);
        isWithoutNodes("behind a change", x);
        x.part(0, 16);
        x.plan(5000);
        isWithoutNodes("when there is a cycle", x);
    }

    private static void isWithoutNodes(String name, TaskWeaver x) {
        for (int k : new int[] {0, 1, 47, 48, -1, Edges.MIN, Edges.MAX}) {
            tree.hasNone(name, x, k);
        }
    }

    /** "as it is now": nodes that are no more are not seen, and those that come in their place are. */
    private static void asItIsNow() {
        TaskWeaver x = Domains.small();
        x.plan(4);
        tree.hasNode("before the failing", x, 1, 0, 0, NONE);
        x.plan(1);
        tree.hasNone("behind the failing", x, 1);
        x.plan(5000);
        tree.hasCount("the first plan", x, 3);
        x.another(2);
        tree.hasNode("the second plan is looked for", x, 0, 16, NONE, 3);
        tree.hasNode("the second plan is looked for", x, 1, 17, 0, NONE);
        tree.hasCount("the second plan is looked for", x, 2);
        x.plan(5000);
        tree.hasNode("the second plan", x, 1, 17, 0, 4);
        tree.hasNode("the second plan", x, 2, 0, NONE, NONE);
    }

    private static void theFullTree() {
        TaskWeaver x = Domains.wide(0, 0, 0, 0);
        x.plan(5000);
        tree.hasNode("48 nodes", x, 0, 16, NONE, 0);
        tree.hasNode("48 nodes", x, 30, 0, 25, NONE);
        tree.hasNode("48 nodes", x, 43, 18, NONE, 2);
        tree.hasNode("48 nodes", x, 47, 0, 43, NONE);
        for (int k : new int[] {48, 49, -1, Edges.MIN, Edges.MAX}) {
            tree.hasNone("48 nodes", x, k);
        }
    }

    /** The first node can be the parent of one far behind it. */
    private static void aParentFarBefore() {
        TaskWeaver x = Domains.wide();
        x.compound();
        Domains.method(x, 20, 16, 17, 17, 0, 0);
        x.forget();
        x.aim(20);
        due.is("far before: plan", x.plan(5000), TaskWeaver.FOUND);
        tree.hasNode("far before", x, 1, 16, 0, 0);
        tree.hasNode("far before", x, 32, 17, 0, 1);
        tree.hasNode("far before", x, 45, 0, 0, NONE);
        tree.hasCount("far before", x, 46);
    }

    private static void theEndHasNoNodes() {
        TaskWeaver x = Domains.small();
        x.plan(5000);
        x.another(5000);
        x.another(5000);
        due.is("the end", x.plan(0), TaskWeaver.END);
        isWithoutNodes("the end", x);
    }

    private static void askingChangesNothing() {
        new Twins(due).unchangedInAllSituations("node", Domains::small, x -> {
            for (int k : new int[] {0, 1, 2, 3, 48, -1, Edges.MIN, Edges.MAX}) {
                for (int what : new int[] {0, 1, 2, 3, -1, Edges.MIN, Edges.MAX}) {
                    x.node(k, what);
                }
            }
        });
    }
}
