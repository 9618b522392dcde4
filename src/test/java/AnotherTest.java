/** Promise 11: another. */
public final class AnotherTest {
    private static final Due due = new Due();
    private static final Twins twins = new Twins(due);
    private static final Tree tree = new Tree(due);

    public static void main(String[] args) {
        noPlanIsFound();
        fuelOutside();
        refusedCallsChangeNothing();
        itsFailingTakesNoStep();
        goesOnAsPlan();
        atMostFuel();
        allOfTheFuel();
        theEmptyPlanHasNoOther();
        allPlansOneAfterTheOther();
        leavesTheCheckerAlone();
        due.end();
    }

    /** "Otherwise NONE": without a search, before a plan is found, at the end, and when there is a cycle. */
    private static void noPlanIsFound() {
        Walk.whereNoPlanIsFound((name, x) -> {
            int steps = x.steps();
            for (int fuel : new int[] {0, 1, 5000, -1, 5001, Edges.MIN, Edges.MAX}) {
                due.is(name + ": another(" + fuel + ")", x.another(fuel), TaskWeaver.NONE);
            }
            due.is(name + ": no step is made", x.steps(), steps);
        });
    }

    /** "also when fuel is not 0 .. 5000" */
    private static void fuelOutside() {
        TaskWeaver x = Domains.small();
        x.plan(5000);
        for (int fuel : Edges.NOT_FUEL) {
            due.is("with a plan: another(" + fuel + ")", x.another(fuel), TaskWeaver.NONE);
            due.is("with a plan: the plan stays behind another(" + fuel + ")", x.node(0, 2), 2);
        }
        due.is("with a plan: found(0)", x.found(0), 2);
        due.is("with a plan: another(5000)", x.another(5000), TaskWeaver.FOUND);
    }

    private static void refusedCallsChangeNothing() {
        twins.unchangedInAllSituations("another with refused fuel", Domains::small, x -> {
            for (int fuel : Edges.NOT_FUEL) {
                x.another(fuel);
            }
        });
        for (int steps : new int[] {0, 1, 3, 5, 7}) {
            twins.unchanged("another behind plan(" + steps + ")", x -> {
                Domains.small(x);
                x.check();
                x.plan(steps);
            }, x -> x.another(5000));
        }
    }

    /** "this failing takes no step": another(0) opens a node, or ends the search. */
    private static void itsFailingTakesNoStep() {
        TaskWeaver x = Domains.small();
        x.plan(8);
        due.is("another(0)", x.another(0), TaskWeaver.MORE);
        due.is("another(0): steps()", x.steps(), 8);
        tree.hasAim("another(0)", x, 0, 16);
        tree.hasCount("another(0)", x, 1);
        due.is("no plan any more", x.found(0), TaskWeaver.NONE);
        due.is("no task of a plan any more", x.task(0), TaskWeaver.NONE);
        x.plan(5000);
        int steps = x.steps();
        due.is("another(0), none is left", x.another(0), TaskWeaver.END);
        due.is("another(0), none is left: steps()", x.steps(), steps);
        tree.hasCount("another(0), none is left", x, 0);
    }

    /** "goes on as plan(fuel)", "steps are counted on" */
    private static void goesOnAsPlan() {
        TaskWeaver x = Domains.compounds(1);
        x.primitive(0, 0, 1, 0, 1);
        x.primitive(0, 0, 2, 0, 2);
        Domains.methodIf(x, 16, 0, 0, 0);
        Domains.methodIf(x, 16, 0, 1, 1);
        Domains.aims(x, 16, 16);
        due.is("first plan", x.plan(6), TaskWeaver.FOUND);
        due.is("first plan: facts", x.found(2), 1);
        due.is("the second 16 fails, the first one is kept anew", x.another(2), TaskWeaver.MORE);
        tree.hasNode("kept anew", x, 0, 16, TaskWeaver.NONE, 1);
        tree.hasCount("kept anew", x, 1);
        due.is("steps are counted on", x.steps(), 8);
        due.is("second plan", x.plan(4), TaskWeaver.FOUND);
        due.is("second plan: first task", x.task(0), 1);
        due.is("second plan: second task", x.task(1), 0);
        due.is("second plan: facts", x.found(2), 3);
        due.is("third plan", x.another(2), TaskWeaver.FOUND);
        due.is("third plan: facts", x.found(2), 2);
        due.is("third plan: steps", x.steps(), 14);
        due.is("no fourth", x.another(5000), TaskWeaver.END);
        due.is("no fourth: steps", x.steps(), 14);
        due.is("no fourth: plan", x.plan(5000), TaskWeaver.END);
    }

    /** The second plan of the small domain takes 4 steps more: 16 by its last method, 17, its method, and 0. */
    private static void atMostFuel() {
        for (int fuel = 0; fuel <= 5; fuel++) {
            TaskWeaver x = Domains.small();
            x.plan(8);
            due.is("another(" + fuel + ")", x.another(fuel), fuel < 4 ? TaskWeaver.MORE : TaskWeaver.FOUND);
            due.is("another(" + fuel + "): steps()", x.steps(), 8 + Math.min(fuel, 4));
        }
    }

    /** All 5000 steps of a search that goes on further are made, and no more. */
    private static void allOfTheFuel() {
        TaskWeaver x = Domains.longSearch();
        due.is("long: plan", x.plan(11), TaskWeaver.FOUND);
        due.is("long: another(5000)", x.another(5000), TaskWeaver.MORE);
        due.is("long: steps", x.steps(), 5011);
        due.is("long: plan(5000)", x.plan(5000), TaskWeaver.MORE);
        due.is("long: the end", x.plan(5000), TaskWeaver.END);
        due.is("long: all steps", x.steps(), Domains.LONG_STEPS);
        x.forget();
        x.plan(0);
        due.is("long, without aims: another(5000)", x.another(5000), TaskWeaver.END);
    }

    private static void theEmptyPlanHasNoOther() {
        TaskWeaver x = new TaskWeaver();
        x.plan(0);
        due.is("the empty plan: another(0)", x.another(0), TaskWeaver.END);
        due.is("the empty plan: steps()", x.steps(), 0);
        due.is("the empty plan: another(0) again", x.another(0), TaskWeaver.NONE);
    }

    /** "every plan can be had one after the other" */
    private static void allPlansOneAfterTheOther() {
        TaskWeaver x = Domains.compounds(1);
        Domains.idlePrimitives(x, 3);
        for (int i = 0; i < 3; i++) {
            Domains.method(x, 16, i);
        }
        Domains.aims(x, 16, 16, 16);
        int answer = x.plan(5000);
        for (int i = 0; i < 27; i++) {
            due.is("plan " + i, answer, TaskWeaver.FOUND);
            due.is("plan " + i + ": first", x.task(0), i / 9);
            due.is("plan " + i + ": second", x.task(1), i / 3 % 3);
            due.is("plan " + i + ": third", x.task(2), i % 3);
            answer = x.another(5000);
        }
        due.is("no 28th plan", answer, TaskWeaver.END);
        due.is("no 28th plan: steps", x.steps(), (1 + 2 * 3) * (1 + 3 + 9));
    }

    private static void leavesTheCheckerAlone() {
        TaskWeaver x = Domains.small();
        x.plan(5000);
        x.check();
        x.told(16, 2);
        x.another(5000);
        due.is("the checker's row", x.left(), 2);
        x.another(0);
        due.is("the checker's row at the end of the search", x.left(), 2);
        due.is("the checker goes on", x.told(0, 0), 0);
    }
}
