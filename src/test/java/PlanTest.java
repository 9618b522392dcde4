/** Promise 10: plan. */
public final class PlanTest {
    private static final Due due = new Due();
    private static final Twins twins = new Twins(due);
    private static final Tree tree = new Tree(due);

    public static void main(String[] args) {
        fuelOutside();
        fuelAtItsEnds();
        refusedFuelChangesNothing();
        cyclic();
        refusedFuelGoesBeforeCyclic();
        cyclicDoesNothing();
        beginsOnlyIfThereIsNone();
        atMostFuel();
        allOfTheFuel();
        seeingAPlanTakesNone();
        foundAgain();
        endAgain();
        leavesTheCheckerAlone();
        due.end();
    }

    /** "NONE when fuel is not 0 .. 5000" */
    private static void fuelOutside() {
        for (int fuel : Edges.NOT_FUEL) {
            due.is("without aims: plan(" + fuel + ")", new TaskWeaver().plan(fuel), TaskWeaver.NONE);
            TaskWeaver x = Domains.small();
            due.is("without a search: plan(" + fuel + ")", x.plan(fuel), TaskWeaver.NONE);
            due.is("without a search: no step behind plan(" + fuel + ")", x.steps(), 0);
            x.plan(3);
            due.is("in a search: plan(" + fuel + ")", x.plan(fuel), TaskWeaver.NONE);
            due.is("in a search: no step behind plan(" + fuel + ")", x.steps(), 3);
            x.plan(5000);
            due.is("with a plan: plan(" + fuel + ")", x.plan(fuel), TaskWeaver.NONE);
            x.another(5000);
            x.another(5000);
            due.is("at the end: plan(0)", x.plan(0), TaskWeaver.END);
            due.is("at the end: plan(" + fuel + ")", x.plan(fuel), TaskWeaver.NONE);
        }
    }

    private static void fuelAtItsEnds() {
        TaskWeaver x = Domains.small();
        due.is("plan(0)", x.plan(0), TaskWeaver.MORE);
        due.is("plan(0) makes no step", x.steps(), 0);
        due.is("plan(1)", x.plan(1), TaskWeaver.MORE);
        due.is("plan(1) makes one", x.steps(), 1);
        due.is("plan(4999)", x.plan(4999), TaskWeaver.FOUND);
        due.is("plan(5000)", Domains.small().plan(5000), TaskWeaver.FOUND);
    }

    private static void refusedFuelChangesNothing() {
        twins.unchangedInAllSituations("plan with refused fuel", Domains::small, x -> {
            for (int fuel : Edges.NOT_FUEL) {
                x.plan(fuel);
            }
        });
    }

    private static TaskWeaver withCycle() {
        TaskWeaver x = Domains.small();
        x.compound();
        Domains.method(x, 18, 18);
        return x;
    }

    /** "CYCLIC when there is a cycle", also one to which no aim leads, and without aims. */
    private static void cyclic() {
        TaskWeaver x = withCycle();
        for (int fuel : new int[] {0, 1, 5000}) {
            due.is("cyclic: plan(" + fuel + ")", x.plan(fuel), TaskWeaver.CYCLIC);
        }
        x.forget();
        due.is("cyclic without aims: plan(0)", x.plan(0), TaskWeaver.CYCLIC);
    }

    private static void refusedFuelGoesBeforeCyclic() {
        TaskWeaver x = withCycle();
        for (int fuel : Edges.NOT_FUEL) {
            due.is("cyclic: plan(" + fuel + ")", x.plan(fuel), TaskWeaver.NONE);
        }
    }

    /** "and nothing is done": no search begins, and the checker goes on. */
    private static void cyclicDoesNothing() {
        TaskWeaver x = withCycle();
        x.plan(5000);
        due.is("cyclic: steps()", x.steps(), 0);
        due.is("cyclic: another(1)", x.another(1), TaskWeaver.NONE);
        due.is("cyclic: found(0)", x.found(0), TaskWeaver.NONE);
        due.is("cyclic: task(0)", x.task(0), TaskWeaver.NONE);
        tree.hasCount("cyclic", x, 0);
        twins.unchanged("plan in a cycle", y -> {
            Domains.small(y);
            y.compound();
            Domains.method(y, 18, 18);
            y.check();
            y.told(16, 2);
        }, y -> {
            y.plan(0);
            y.plan(5000);
            y.plan(-1);
        });
    }

    /** "Otherwise a search begins, if there is none": what there is goes on, step by step the same way. */
    private static void beginsOnlyIfThereIsNone() {
        TaskWeaver x = Domains.small();
        TaskWeaver y = Domains.small();
        for (int i = 1; i <= 7; i++) {
            due.is("step " + i, x.plan(1), TaskWeaver.MORE);
            due.is("step " + i + ": steps()", x.steps(), i);
        }
        due.is("step 8", x.plan(1), TaskWeaver.FOUND);
        due.is("all steps at once", y.plan(8), TaskWeaver.FOUND);
        for (int k = 0; k < 4; k++) {
            due.is("the same task " + k, x.node(k, 0), y.node(k, 0));
            due.is("the same method " + k, x.node(k, 2), y.node(k, 2));
        }
    }

    /** "at most fuel": one less than it takes is MORE, for a plan and for the end. */
    private static void atMostFuel() {
        TaskWeaver x = Domains.small();
        due.is("a plan in 8 steps: plan(7)", x.plan(7), TaskWeaver.MORE);
        due.is("a plan in 8 steps: steps behind plan(7)", x.steps(), 7);
        due.is("a plan in 8 steps: plan(8)", Domains.small().plan(8), TaskWeaver.FOUND);
        x = Domains.small();
        due.is("a plan in 8 steps: plan(9)", x.plan(9), TaskWeaver.FOUND);
        due.is("a plan in 8 steps: steps behind plan(9)", x.steps(), 8);
        due.is("an end in 3 steps: plan(2)", noMethodHolds().plan(2), TaskWeaver.MORE);
        due.is("an end in 3 steps: plan(3)", noMethodHolds().plan(3), TaskWeaver.END);
        x = noMethodHolds();
        due.is("an end in 3 steps: plan(4)", x.plan(4), TaskWeaver.END);
        due.is("an end in 3 steps: steps behind plan(4)", x.steps(), 3);
    }

    private static TaskWeaver noMethodHolds() {
        TaskWeaver x = Domains.compounds(1);
        Domains.methodIf(x, 16, 1, 0);
        Domains.methodIf(x, 16, 2, 0);
        x.aim(16);
        return x;
    }

    /** All 5000 steps of a search that goes on further are made, and no more. */
    private static void allOfTheFuel() {
        TaskWeaver x = Domains.longSearch();
        x.start(1);
        int steps = Domains.LONG_STEPS;
        due.is("long: plan(5000)", x.plan(5000), TaskWeaver.MORE);
        due.is("long: steps behind the first", x.steps(), 5000);
        due.is("long: plan(5000) again", x.plan(5000), TaskWeaver.MORE);
        due.is("long: steps behind the second", x.steps(), 10000);
        due.is("long: before the last step", x.plan(steps - 10000 - 1), TaskWeaver.MORE);
        due.is("long: the last step", x.plan(1), TaskWeaver.END);
        due.is("long: all steps", x.steps(), steps);
    }

    /** "(to see that it has found one takes none)" */
    private static void seeingAPlanTakesNone() {
        TaskWeaver x = new TaskWeaver();
        due.is("nothing to do: plan(0)", x.plan(0), TaskWeaver.FOUND);
        due.is("nothing to do: steps()", x.steps(), 0);
        Domains.idlePrimitives(x, 1);
        x.aim(0);
        due.is("one task: plan(0)", x.plan(0), TaskWeaver.MORE);
        due.is("one task: plan(1)", x.plan(1), TaskWeaver.FOUND);
        due.is("one task: steps()", x.steps(), 1);
    }

    /** "A search that has found a plan ... answers so again." */
    private static void foundAgain() {
        TaskWeaver x = Domains.small();
        x.plan(8);
        for (int fuel : new int[] {0, 1, 5000}) {
            due.is("found again: plan(" + fuel + ")", x.plan(fuel), TaskWeaver.FOUND);
            due.is("found again: steps()", x.steps(), 8);
            due.is("found again: method", x.node(0, 2), 2);
        }
    }

    /** "A search that ... is at its end, answers so again.", also one that had found a plan before. */
    private static void endAgain() {
        TaskWeaver x = noMethodHolds();
        x.plan(5000);
        TaskWeaver y = new TaskWeaver();
        y.plan(0);
        y.another(0);
        for (int fuel : new int[] {0, 1, 5000}) {
            due.is("end again: plan(" + fuel + ")", x.plan(fuel), TaskWeaver.END);
            due.is("end again: steps()", x.steps(), 3);
            due.is("end without aims again: plan(" + fuel + ")", y.plan(fuel), TaskWeaver.END);
            due.is("end without aims again: steps()", y.steps(), 0);
        }
    }

    private static void leavesTheCheckerAlone() {
        TaskWeaver x = Domains.small();
        x.check();
        x.told(16, 2);
        for (int i = 0; i < 8; i++) {
            x.plan(1);
            due.is("the checker's row behind step " + i, x.left(), 2);
        }
        due.is("the checker goes on", x.told(0, 0), 0);
        due.is("the checker goes on: left()", x.left(), 1);
    }
}
