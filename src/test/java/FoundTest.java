/** Promise 14: found. */
public final class FoundTest {
    private static final Due due = new Due();

    public static void main(String[] args) {
        everyWhat();
        anotherWhat();
        theEmptyPlan();
        theEmptyMethod();
        theLargestPlan();
        theFactsAtTheirEnds();
        everyPlanHasItsOwn();
        noPlanIsFound();
        askingChangesNothing();
        due.end();
    }

    private static void isFound(String name, TaskWeaver x, int tasks, int cost, int facts, int nodes) {
        due.is(name + ": tasks", x.found(0), tasks);
        due.is(name + ": cost", x.found(1), cost);
        due.is(name + ": facts", x.found(2), facts);
        due.is(name + ": nodes", x.found(3), nodes);
    }

    /** "how many tasks it has (0), the sum of their costs (1), the facts behind it (2), the nodes of its tree (3)" */
    private static void everyWhat() {
        TaskWeaver x = Domains.compounds(2);
        x.primitive(0, 0, 1, 0, 7);
        x.primitive(1, 0, 8, 1, 11);
        Domains.method(x, 16, 0, 17);
        Domains.method(x, 17, 1);
        x.start(4);
        Domains.aims(x, 16, 0);
        x.plan(5000);
        isFound("a plan", x, 3, 7 + 11 + 7, 13, 5);
    }

    /** "NONE ... for another what" */
    private static void anotherWhat() {
        TaskWeaver x = Domains.small();
        x.plan(5000);
        for (int what : new int[] {-1, 4, 5, -4, Edges.MIN, Edges.MAX, Edges.MIN + 1, 65536}) {
            due.is("found(" + what + ")", x.found(what), TaskWeaver.NONE);
        }
        isFound("the plan", x, 2, 20, 1, 3);
    }

    private static void theEmptyPlan() {
        TaskWeaver x = new TaskWeaver();
        x.start(9);
        x.plan(0);
        isFound("no aims", x, 0, 0, 9, 0);
    }

    private static void theEmptyMethod() {
        TaskWeaver x = Domains.compounds(1);
        Domains.method(x, 16);
        x.start(9);
        x.aim(16);
        x.plan(5000);
        isFound("no parts", x, 0, 0, 9, 1);
    }

    private static void theLargestPlan() {
        TaskWeaver x = Domains.wide(0, 0, 0, 0);
        x.plan(5000);
        isFound("48 nodes", x, Domains.PLAN_OF_48_NODES, 100 * Domains.PLAN_OF_48_NODES, 0, 48);
    }

    private static void theFactsAtTheirEnds() {
        TaskWeaver x = new TaskWeaver();
        x.primitive(0, 0, 65535, 0, 0);
        x.primitive(0, 0, 0, 65535, 0);
        x.aim(0);
        x.plan(1);
        isFound("all facts", x, 1, 0, 65535, 1);
        x.aim(1);
        x.plan(2);
        isFound("no facts", x, 2, 0, 0, 2);
    }

    /** "NONE when the search has found none": without a search, in all steps before it, and at the end. */
    private static void noPlanIsFound() {
        Walk.whereNoPlanIsFound((name, x) -> {
            for (int what : new int[] {-1, 0, 1, 2, 3, 4, Edges.MIN, Edges.MAX}) {
                due.is(name + ": found(" + what + ")", x.found(what), TaskWeaver.NONE);
            }
        });
    }

    private static void everyPlanHasItsOwn() {
        TaskWeaver x = Domains.small();
        x.plan(5000);
        isFound("the first plan", x, 2, 20, 1, 3);
        x.another(5000);
        isFound("the second plan", x, 1, 10, 1, 3);
    }

    private static void askingChangesNothing() {
        new Twins(due).unchangedInAllSituations("found", Domains::small, x -> {
            for (int what : new int[] {-1, 0, 1, 2, 3, 4, Edges.MIN, Edges.MAX}) {
                x.found(what);
            }
        });
    }
}
