/** Promise 4: method. */
public final class MethodTest {
    private static final Due due = new Due();
    private static final Twins twins = new Twins(due);

    public static void main(String[] args) {
        numbersOverAll();
        withoutParts();
        noSuchCompoundTask();
        fiveOfOneTask();
        bitsAtTheirEnds();
        bitsOutside();
        fortyInAll();
        inTheOrderInWhichTheyCame();
        refusedValuesChangeNothing();
        refusedSixthChangesNothing();
        refusedFortyFirstChangesNothing();
        due.end();
    }

    /** "Its number": over all tasks, from 0, whichever task they belong to. */
    private static void numbersOverAll() {
        TaskWeaver x = Domains.compounds(3);
        int[] tasks = {18, 16, 18, 17, 16, 18};
        for (int i = 0; i < tasks.length; i++) {
            due.is("method " + i + ", of " + tasks[i], x.method(tasks[i], 0, 0), i);
        }
    }

    /** "without parts" */
    private static void withoutParts() {
        TaskWeaver x = Domains.compounds(1);
        x.method(16, 0, 0);
        x.aim(16);
        due.is("without parts: plan(2)", x.plan(2), TaskWeaver.FOUND);
        due.is("without parts: no task is in the plan", x.found(0), 0);
        due.is("without parts: one node", x.found(3), 1);
        due.is("without parts: its first part", x.part(0, 16), 1);
    }

    /** "NONE when there is no such compound task": not yet, a primitive one, and no code of a task at all. */
    private static void noSuchCompoundTask() {
        TaskWeaver x = Domains.compounds(2);
        Domains.idlePrimitives(x, 12);
        for (int task : Edges.NEVER_TASKS) {
            due.is("method of " + task, x.method(task, 0, 0), TaskWeaver.NONE);
        }
        for (int task = 0; task < 12; task++) {
            due.is("method of primitive " + task, x.method(task, 0, 0), TaskWeaver.NONE);
        }
        for (int task = 18; task < 28; task++) {
            due.is("method of " + task + ", which is not there yet", x.method(task, 0, 0), TaskWeaver.NONE);
        }
        due.is("the first compound task", x.method(16, 0, 0), 0);
        due.is("the last compound task", x.method(17, 0, 0), 1);
        x.compound();
        due.is("a task that has come", x.method(18, 0, 0), 2);
    }

    /** "it has 5" */
    private static void fiveOfOneTask() {
        TaskWeaver x = Domains.compounds(2);
        for (int i = 0; i < 5; i++) {
            due.is("method of 16, " + i, x.method(16, 0, 0), 2 * i);
            due.is("method of 17, " + i, x.method(17, 0, 0), 2 * i + 1);
        }
        due.is("a 6th of 16", x.method(16, 0, 0), TaskWeaver.NONE);
        due.is("a 6th of 17", x.method(17, 0, 0), TaskWeaver.NONE);
        x.compound();
        due.is("another task has room, and a refused one takes no number", x.method(18, 0, 0), 10);
    }

    /** "bits are not 0 .. 65535": the last values that are taken. */
    private static void bitsAtTheirEnds() {
        TaskWeaver x = Domains.compounds(1);
        due.is("method(16, 0, 0)", x.method(16, 0, 0), 0);
        due.is("method(16, 65535, 0)", x.method(16, 65535, 0), 1);
        due.is("method(16, 0, 65535)", x.method(16, 0, 65535), 2);
        due.is("method(16, 65535, 65535)", x.method(16, 65535, 65535), 3);
    }

    /** "bits are not 0 .. 65535": the first values that are refused, and the ends of int. */
    private static void bitsOutside() {
        TaskWeaver x = Domains.compounds(1);
        for (int bits : Edges.NOT_BITS) {
            due.is("method that needs " + bits, x.method(16, bits, 0), TaskWeaver.NONE);
            due.is("method that lacks " + bits, x.method(16, 0, bits), TaskWeaver.NONE);
        }
        due.is("a refused one takes no number", x.method(16, 0, 0), 0);
    }

    /** "there are 40 in all": the 41st is refused of a task that has 4, and of one that has none. */
    private static void fortyInAll() {
        TaskWeaver x = Domains.compounds(12);
        for (int i = 0; i < 40; i++) {
            due.is("method " + i, x.method(16 + i % 10, 0, 0), i);
        }
        due.is("a 41st, of a task with 4", x.method(16, 0, 0), TaskWeaver.NONE);
        due.is("a 41st, of a task without any", x.method(27, 0, 0), TaskWeaver.NONE);
        due.is("the 40th can have parts", x.part(39, 27), 1);
        due.is("there is no method 40", x.part(40, 27), TaskWeaver.NONE);
    }

    /** "METHODS, in the order in which they came": the search tries them so, also if others came between. */
    private static void inTheOrderInWhichTheyCame() {
        TaskWeaver x = Domains.compounds(2);
        for (int i = 0; i < 5; i++) {
            x.method(17, 0, 0);
            x.method(16, 0, 0);
        }
        x.aim(16);
        int answer = x.plan(2);
        for (int i = 0; i < 5; i++) {
            due.is("way " + i, answer, TaskWeaver.FOUND);
            due.is("way " + i + ": its method", x.node(0, 2), 2 * i + 1);
            answer = x.another(1);
        }
        due.is("no 6th way", answer, TaskWeaver.END);
    }

    private static void refusedValuesChangeNothing() {
        twins.unchangedInAllSituations("a method that is refused", Domains::small, x -> {
            for (int bits : Edges.NOT_BITS) {
                x.method(16, bits, 0);
                x.method(16, 0, bits);
            }
            for (int task : Edges.NEVER_TASKS) {
                x.method(task, 0, 0);
            }
            x.method(0, 0, 0);
            x.method(18, 0, 0);
        });
    }

    private static void refusedSixthChangesNothing() {
        twins.unchangedInAllSituations("a 6th method of a task", x -> {
            Domains.small(x);
            x.method(16, 0, 0);
        }, x -> x.method(16, 1, 2));
    }

    private static void refusedFortyFirstChangesNothing() {
        twins.unchangedInAllSituations("a 41st method", Domains::full, x -> x.method(17, 1, 2));
    }
}
