/** Promise 5: part. */
public final class PartTest {
    private static final Due due = new Due();
    private static final Twins twins = new Twins(due);

    public static void main(String[] args) {
        howManyItHasThen();
        itsOwnTask();
        becomesTheLastPart();
        noSuchMethod();
        noSuchTask();
        eachMethodHasItsOwnParts();
        refusedValuesChangeNothing();
        refusedSixthChangesNothing();
        due.end();
    }

    /** "how many it has then; NONE when ... it has 5" */
    private static void howManyItHasThen() {
        TaskWeaver x = Domains.compounds(1);
        Domains.idlePrimitives(x, 1);
        x.method(16, 0, 0);
        for (int count = 1; count <= 5; count++) {
            due.is("part number " + count, x.part(0, 0), count);
        }
        due.is("a 6th part", x.part(0, 0), TaskWeaver.NONE);
        due.is("a 6th part, asked again", x.part(0, 16), TaskWeaver.NONE);
    }

    /** "A task (its own one, too)" */
    private static void itsOwnTask() {
        TaskWeaver x = Domains.compounds(1);
        x.method(16, 0, 0);
        due.is("its own task", x.part(0, 16), 1);
        due.is("its own task makes a cycle", x.cycle(0), 16);
    }

    /** "becomes the last part": the parts are done in the order in which they came. */
    private static void becomesTheLastPart() {
        TaskWeaver x = Domains.compounds(2);
        Domains.idlePrimitives(x, 12);
        Domains.method(x, 16, 11, 0, 17, 0, 5);
        Domains.method(x, 17, 3);
        x.aim(16);
        x.plan(5000);
        int[] order = {16, 11, 0, 17, 3, 0, 5};
        for (int k = 0; k < order.length; k++) {
            due.is("order: node " + k, x.node(k, 0), order[k]);
        }
        due.is("order: nodes", x.found(3), order.length);
    }

    /** "NONE when there is no such method" */
    private static void noSuchMethod() {
        TaskWeaver x = Domains.compounds(1);
        due.is("part(0, 16) before there is a method", x.part(0, 16), TaskWeaver.NONE);
        x.method(16, 0, 0);
        x.method(16, 0, 0);
        for (int method : Edges.NEVER_METHODS) {
            due.is("part(" + method + ", 16)", x.part(method, 16), TaskWeaver.NONE);
        }
        for (int method = 2; method < 40; method++) {
            due.is("part(" + method + ", 16), which is not there yet", x.part(method, 16), TaskWeaver.NONE);
        }
        due.is("the first method", x.part(0, 16), 1);
        due.is("the last method", x.part(1, 16), 1);
    }

    /** "no such ... task": not yet, and no code of a task at all. */
    private static void noSuchTask() {
        TaskWeaver x = Domains.compounds(2);
        Domains.idlePrimitives(x, 2);
        x.method(16, 0, 0);
        for (int task : Edges.NEVER_TASKS) {
            due.is("part(0, " + task + ")", x.part(0, task), TaskWeaver.NONE);
        }
        for (int task = 2; task < 16; task++) {
            due.is("part(0, " + task + "), which is not there yet", x.part(0, task), TaskWeaver.NONE);
        }
        for (int task = 18; task < 28; task++) {
            due.is("part(0, " + task + "), which is not there yet", x.part(0, task), TaskWeaver.NONE);
        }
        int[] tasks = {0, 1, 16, 17};
        for (int i = 0; i < tasks.length; i++) {
            due.is("part(0, " + tasks[i] + ")", x.part(0, tasks[i]), i + 1);
        }
    }

    private static void eachMethodHasItsOwnParts() {
        TaskWeaver x = Domains.compounds(12);
        Domains.idlePrimitives(x, 1);
        for (int method = 0; method < 40; method++) {
            x.method(16 + method % 12, 0, 0);
        }
        for (int count = 1; count <= 5; count++) {
            for (int method = 0; method < 40; method++) {
                due.is("part " + count + " of method " + method, x.part(method, 0), count);
            }
        }
        due.is("a 6th part of the first", x.part(0, 0), TaskWeaver.NONE);
        due.is("a 6th part of the last", x.part(39, 0), TaskWeaver.NONE);
    }

    private static void refusedValuesChangeNothing() {
        twins.unchangedInAllSituations("a part that is refused", Domains::small, x -> {
            for (int method : Edges.NEVER_METHODS) {
                x.part(method, 0);
            }
            for (int task : Edges.NEVER_TASKS) {
                x.part(2, task);
            }
            x.part(5, 0);
            x.part(2, 2);
            x.part(2, 18);
        });
    }

    private static void refusedSixthChangesNothing() {
        twins.unchangedInAllSituations("a 6th part", Domains::full, x -> x.part(39, 0));
    }
}
