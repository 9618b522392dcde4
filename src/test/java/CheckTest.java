/** Promise 16: check. */
public final class CheckTest {
    private static final Due due = new Due();
    private static final Tree tree = new Tree(due);

    public static void main(String[] args) {
        howManyAreToBeDone();
        beginsAnew();
        beginsAnewBehindTheLastTask();
        alsoIfThereIsACycle();
        withTheDomainAsItIs();
        leavesTheSearchAlone();
        due.end();
    }

    /** "How many tasks are to be done.": none, and up to six aims. */
    private static void howManyAreToBeDone() {
        TaskWeaver x = Domains.compounds(1);
        due.is("no aims", x.check(), 0);
        for (int count = 1; count <= 6; count++) {
            x.aim(16);
            due.is(count + " aims", x.check(), count);
            due.is(count + " aims: left()", x.left(), count);
        }
        x.aim(16);
        due.is("a refused 7th aim", x.check(), 6);
        x.forget();
        due.is("forgotten aims", x.check(), 0);
    }

    /** "The checker begins (anew ...)": with the row, the facts and the count of the beginning. */
    private static void beginsAnew() {
        TaskWeaver x = new TaskWeaver();
        x.primitive(0, 1, 1, 0, 0);
        Domains.aims(x, 0, 0);
        for (int i = 0; i < 60; i++) {
            due.is("time " + i + ": check()", x.check(), 2);
            due.is("time " + i + ": told(0, 0)", x.told(0, 0), 0);
            due.is("time " + i + ": it lacks a fact now", x.told(0, 0), 4);
            due.is("time " + i + ": left()", x.left(), 1);
        }
        due.is("check() behind check()", x.check(), 2);
        due.is("check() behind check() again", x.check(), 2);
    }

    private static void beginsAnewBehindTheLastTask() {
        TaskWeaver x = new TaskWeaver();
        Domains.idlePrimitives(x, 1);
        x.aim(0);
        x.check();
        x.told(0, 0);
        due.is("nothing is left", x.told(0, 0), 1);
        due.is("check() again", x.check(), 1);
        due.is("and it is right again", x.told(0, 0), 0);
    }

    /** "also if there is a cycle" */
    private static void alsoIfThereIsACycle() {
        TaskWeaver x = Domains.compounds(1);
        Domains.method(x, 16, 16);
        Domains.method(x, 16);
        x.aim(16);
        due.is("cycle: plan(5)", x.plan(5), TaskWeaver.CYCLIC);
        due.is("cycle: check()", x.check(), 1);
        due.is("cycle: told(16, 0)", x.told(16, 0), 0);
        due.is("cycle: left()", x.left(), 1);
        due.is("cycle: told(16, 1)", x.told(16, 1), 0);
        due.is("cycle: left() behind the empty method", x.left(), 0);
    }

    /** "with the domain as it is": what came last, and the facts at the start. */
    private static void withTheDomainAsItIs() {
        TaskWeaver x = Domains.compounds(1);
        x.primitive(6, Edges.ALL_BITS - 6, 0, 0, 0);
        x.aim(16);
        x.check();
        due.is("no method yet", x.told(16, 0), 5);
        Domains.method(x, 16, 0);
        x.start(6);
        due.is("changed: check()", x.check(), 1);
        due.is("changed: told(16, 0)", x.told(16, 0), 0);
        due.is("changed: the part", x.left(), 1);
        due.is("changed: the facts", x.told(0, 0), 0);
    }

    private static void leavesTheSearchAlone() {
        TaskWeaver x = Domains.small();
        x.check();
        due.is("no search begins", x.steps(), 0);
        x.plan(4);
        x.check();
        due.is("the steps stay", x.steps(), 4);
        tree.hasNode("the tree stays", x, 1, 0, 0, TaskWeaver.NONE);
        due.is("the search goes on", x.plan(4), TaskWeaver.FOUND);
        x.check();
        due.is("the plan stays", x.found(0), 2);
        due.is("the plan stays: another plan", x.another(4), TaskWeaver.FOUND);
        x.another(0);
        x.check();
        due.is("the end stays", x.plan(0), TaskWeaver.END);
    }
}
