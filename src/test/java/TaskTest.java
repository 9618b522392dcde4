/** Promise 13: task. */
public final class TaskTest {
    private static final Due due = new Due();

    public static void main(String[] args) {
        theTasksOfThePlan();
        noSuchTaskOfThePlan();
        theEmptyPlan();
        theFirstAndTheLastCode();
        aPlanOfManyTasks();
        noPlanIsFound();
        askingChangesNothing();
        due.end();
    }

    /** "The code of the k-th task of the plan, from 0": the primitive nodes, in their order. */
    private static void theTasksOfThePlan() {
        TaskWeaver x = Domains.compounds(2);
        Domains.idlePrimitives(x, 4);
        Domains.method(x, 16, 2, 17, 1);
        Domains.method(x, 17, 3);
        Domains.aims(x, 0, 16, 0);
        x.plan(5000);
        int[] plan = {0, 2, 3, 1, 0};
        for (int k = 0; k < plan.length; k++) {
            due.is("task(" + k + ")", x.task(k), plan[k]);
        }
        due.is("task(5)", x.task(5), TaskWeaver.NONE);
    }

    /** "NONE when ... there is none such" */
    private static void noSuchTaskOfThePlan() {
        TaskWeaver x = Domains.small();
        x.plan(5000);
        due.is("the last task", x.task(1), 0);
        for (int k : new int[] {2, 3, 47, 48, -1, -2, Edges.MIN, Edges.MAX}) {
            due.is("task(" + k + ")", x.task(k), TaskWeaver.NONE);
        }
    }

    private static void theEmptyPlan() {
        TaskWeaver x = Domains.compounds(1);
        Domains.method(x, 16);
        x.plan(0);
        due.is("no aims: task(0)", x.task(0), TaskWeaver.NONE);
        x.aim(16);
        due.is("no parts: plan(2)", x.plan(2), TaskWeaver.FOUND);
        due.is("no parts: task(0)", x.task(0), TaskWeaver.NONE);
        due.is("no parts: task(-1)", x.task(-1), TaskWeaver.NONE);
    }

    private static void theFirstAndTheLastCode() {
        TaskWeaver x = new TaskWeaver();
        Domains.idlePrimitives(x, 12);
        Domains.aims(x, 11, 0);
        x.plan(2);
        due.is("task(0)", x.task(0), 11);
        due.is("task(1)", x.task(1), 0);
    }

    private static void aPlanOfManyTasks() {
        TaskWeaver x = Domains.wide(0, 0, 0, 0);
        x.plan(5000);
        int count = Domains.PLAN_OF_48_NODES;
        due.is("the last of many", x.task(count - 1), 0);
        due.is("none behind it", x.task(count), TaskWeaver.NONE);
    }

    /** "NONE when the search has found none": also while its tree has primitive nodes, and without a search. */
    private static void noPlanIsFound() {
        Walk.whereNoPlanIsFound((name, x) -> {
            for (int k : new int[] {0, 1, -1, Edges.MIN, Edges.MAX}) {
                due.is(name + ": task(" + k + ")", x.task(k), TaskWeaver.NONE);
            }
        });
    }

    private static void askingChangesNothing() {
        new Twins(due).unchangedInAllSituations("task", Domains::small, x -> {
            for (int k : new int[] {0, 1, 2, -1, Edges.MIN, Edges.MAX}) {
                x.task(k);
            }
        });
    }
}
