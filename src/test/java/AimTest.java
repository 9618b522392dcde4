/** Promise 7: aim. */
public final class AimTest {
    private static final Due due = new Due();
    private static final Twins twins = new Twins(due);

    public static void main(String[] args) {
        howManyThereAreThen();
        becomesTheLastAim();
        noSuchTask();
        refusedValuesChangeNothing();
        refusedSeventhChangesNothing();
        due.end();
    }

    /** "how many there are then; NONE when ... there are 6" */
    private static void howManyThereAreThen() {
        TaskWeaver x = Domains.compounds(1);
        Domains.idlePrimitives(x, 1);
        for (int count = 1; count <= 6; count++) {
            due.is("aim number " + count, x.aim(count % 2 == 0 ? 0 : 16), count);
        }
        due.is("a 7th aim", x.aim(0), TaskWeaver.NONE);
        due.is("a 7th aim, asked again", x.aim(16), TaskWeaver.NONE);
        due.is("6 are there", x.check(), 6);
    }

    /** "A task becomes the last aim" */
    private static void becomesTheLastAim() {
        TaskWeaver x = new TaskWeaver();
        Domains.idlePrimitives(x, 12);
        int[] order = {11, 0, 5, 5, 10, 1};
        Domains.aims(x, order);
        due.is("order: plan(6)", x.plan(6), TaskWeaver.FOUND);
        for (int k = 0; k < order.length; k++) {
            due.is("order: task(" + k + ")", x.task(k), order[k]);
        }
    }

    /** "NONE when there is no such task": not yet, and no code of a task at all. */
    private static void noSuchTask() {
        TaskWeaver x = Domains.compounds(2);
        Domains.idlePrimitives(x, 2);
        for (int task : Edges.NEVER_TASKS) {
            due.is("aim(" + task + ")", x.aim(task), TaskWeaver.NONE);
        }
        for (int task = 2; task < 16; task++) {
            due.is("aim(" + task + "), which is not there yet", x.aim(task), TaskWeaver.NONE);
        }
        for (int task = 18; task < 28; task++) {
            due.is("aim(" + task + "), which is not there yet", x.aim(task), TaskWeaver.NONE);
        }
        int[] tasks = {0, 1, 16, 17};
        for (int i = 0; i < tasks.length; i++) {
            due.is("aim(" + tasks[i] + ")", x.aim(tasks[i]), i + 1);
        }
    }

    private static void refusedValuesChangeNothing() {
        twins.unchangedInAllSituations("an aim that is refused", Domains::small, x -> {
            for (int task : Edges.NEVER_TASKS) {
                x.aim(task);
            }
            x.aim(2);
            x.aim(18);
        });
    }

    private static void refusedSeventhChangesNothing() {
        twins.unchangedInAllSituations("a 7th aim", Domains::full, x -> x.aim(1));
    }
}
