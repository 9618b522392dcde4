/** Promise 9: cycle, and what plan() says of one. */
public final class CycleTest {
    private static final Due due = new Due();

    public static void main(String[] args) {
        noCycle();
        ownPart();
        firstMetByRisingCodes();
        orderOfVisits();
        partsInTheirOrder();
        visitedOnesAreNotVisitedAgain();
        methodsOrderNotNumbers();
        longest();
        planIsCyclic();
        due.end();
    }

    private static TaskWeaver compounds(int count) {
        TaskWeaver x = new TaskWeaver();
        for (int i = 0; i < count; i++) {
            x.compound();
        }
        return x;
    }

    private static void link(TaskWeaver x, int from, int... to) {
        int method = x.method(from, 0, 0);
        for (int task : to) {
            x.part(method, task);
        }
    }

    private static void isCycle(String name, TaskWeaver x, int... tasks) {
        for (int k = 0; k < tasks.length; k++) {
            due.is(name + ": cycle(" + k + ")", x.cycle(k), tasks[k]);
        }
        for (int k : new int[] {tasks.length, tasks.length + 1, 12, -1, Integer.MIN_VALUE, Integer.MAX_VALUE}) {
            due.is(name + ": cycle(" + k + ")", x.cycle(k), TaskWeaver.NONE);
        }
    }

    private static void noCycle() {
        isCycle("new object", new TaskWeaver());
        TaskWeaver x = compounds(4);
        x.primitive(0, 0, 0, 0, 0);
        link(x, 16, 17, 18, 17, 0);
        link(x, 17, 19);
        link(x, 18, 19, 0, 19);
        link(x, 16, 19);
        isCycle("met again, but not while it is going on", x);
        due.is("no cycle: plan", x.plan(0), TaskWeaver.FOUND);
    }

    private static void ownPart() {
        TaskWeaver x = compounds(2);
        link(x, 17, 17);
        isCycle("its own part", x, 17);
    }

    private static void firstMetByRisingCodes() {
        TaskWeaver x = compounds(5);
        link(x, 19, 20);
        link(x, 20, 19);
        link(x, 18, 17);
        link(x, 17, 18);
        isCycle("the one with the lower code", x, 17, 18);
    }

    private static void orderOfVisits() {
        TaskWeaver x = compounds(5);
        link(x, 16, 20);
        link(x, 20, 18);
        link(x, 18, 19);
        link(x, 19, 20);
        link(x, 17, 17);
        isCycle("from the one that was met", x, 20, 18, 19);
    }

    private static void partsInTheirOrder() {
        TaskWeaver x = compounds(3);
        link(x, 16, 18, 17, 16);
        link(x, 17, 16);
        link(x, 18);
        isCycle("the first part that leads back", x, 16, 17);
    }

    private static void visitedOnesAreNotVisitedAgain() {
        TaskWeaver x = compounds(4);
        link(x, 16, 17);
        link(x, 18, 17, 19);
        link(x, 19, 17, 18);
        isCycle("past one whose visit is over", x, 18, 19);
    }

    private static void methodsOrderNotNumbers() {
        TaskWeaver x = compounds(3);
        int first = x.method(16, 0, 0);
        int second = x.method(16, 0, 0);
        x.part(second, 16);
        isCycle("the second method", x, 16);
        x.part(first, 17);
        link(x, 17, 18);
        link(x, 18, 16);
        isCycle("the first method goes before", x, 16, 17, 18);
    }

    private static void longest() {
        TaskWeaver x = compounds(12);
        for (int i = 0; i < 11; i++) {
            link(x, 16 + i, 17 + i);
        }
        isCycle("a chain of all", x);
        link(x, 27, 16);
        isCycle("a cycle of all", x, 16, 17, 18, 19, 20, 21, 22, 23, 24, 25, 26, 27);
    }

    private static void planIsCyclic() {
        TaskWeaver x = compounds(2);
        x.primitive(0, 0, 0, 0, 0);
        x.aim(0);
        due.is("before the cycle: plan", x.plan(1), TaskWeaver.FOUND);
        link(x, 17, 17);
        due.is("a cycle that no aim needs: plan", x.plan(5000), TaskWeaver.CYCLIC);
        due.is("cyclic: plan(0)", x.plan(0), TaskWeaver.CYCLIC);
        due.is("cyclic: bad fuel goes first", x.plan(-1), TaskWeaver.NONE);
        due.is("cyclic: bad fuel goes first", x.plan(5001), TaskWeaver.NONE);
        due.is("cyclic: nothing is done", x.steps(), 0);
        due.is("cyclic: another", x.another(1), TaskWeaver.NONE);
        due.is("cyclic: node", x.node(0, 0), TaskWeaver.NONE);
        due.is("cyclic: found", x.found(0), TaskWeaver.NONE);
        due.is("cyclic: cycle changes nothing", x.cycle(0), 17);
        due.is("cyclic: the checker begins all the same", x.check(), 1);
        due.is("cyclic: cycle leaves the checker", x.cycle(0), 17);
        due.is("cyclic: and it goes on", x.told(0, 0), 0);
    }
}
