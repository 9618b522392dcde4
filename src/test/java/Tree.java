/** What the tests ask of the nodes of a search's tree. */
final class Tree {
    private static final int NONE = TaskWeaver.NONE;

    private final Due due;

    Tree(Due due) {
        this.due = due;
    }

    void hasNode(String name, TaskWeaver x, int k, int task, int parent, int method) {
        due.is(name + ": task of node " + k, x.node(k, 0), task);
        due.is(name + ": parent of node " + k, x.node(k, 1), parent);
        due.is(name + ": method of node " + k, x.node(k, 2), method);
    }

    /** An aim that is open, or a primitive one. */
    void hasAim(String name, TaskWeaver x, int k, int task) {
        hasNode(name, x, k, task, NONE, NONE);
    }

    void hasNone(String name, TaskWeaver x, int k) {
        hasNode(name + " (there is no such node)", x, k, NONE, NONE, NONE);
    }

    /** The tree has so many nodes. */
    void hasCount(String name, TaskWeaver x, int count) {
        if (count > 0) {
            due.is(name + ": there is a node " + (count - 1), x.node(count - 1, 0) != NONE, true);
        }
        for (int k = count; k <= 48; k++) {
            due.is(name + ": there is a node " + k, x.node(k, 0) != NONE, false);
        }
    }
}
