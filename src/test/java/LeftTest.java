/** Promise 18: left. */
public final class LeftTest {
    private static final Due due = new Due();

    public static void main(String[] args) {
        notBegun();
        fromNoneToSix();
        everyTaskThatIsTaken();
        refusedOnesStay();
        theLongestRow();
        askingChangesNothing();
        due.end();
    }

    /** "NONE as for told()": not yet, or no longer. */
    private static void notBegun() {
        TaskWeaver x = new TaskWeaver();
        due.is("a new object", x.left(), TaskWeaver.NONE);
        Domains.small(x);
        due.is("not yet", x.left(), TaskWeaver.NONE);
        x.told(16, 2);
        due.is("told() begins nothing", x.left(), TaskWeaver.NONE);
        x.plan(5000);
        due.is("a search begins nothing", x.left(), TaskWeaver.NONE);
        x.check();
        due.is("begun", x.left(), 2);
        x.start(0);
        due.is("no longer", x.left(), TaskWeaver.NONE);
    }

    private static void fromNoneToSix() {
        TaskWeaver x = Domains.compounds(1);
        x.check();
        due.is("no aims", x.left(), 0);
        for (int count = 1; count <= 6; count++) {
            x.aim(16);
            due.is("behind aim(16)", x.left(), TaskWeaver.NONE);
            x.check();
            due.is(count + " aims", x.left(), count);
        }
    }

    /** A primitive task is one less; a compound one is one less with as many more as its method has parts. */
    private static void everyTaskThatIsTaken() {
        TaskWeaver x = Domains.compounds(1);
        Domains.idlePrimitives(x, 1);
        for (int parts = 0; parts < 5; parts++) {
            Domains.method(x, 16, new int[parts]);
        }
        x.aim(16);
        for (int parts = 0; parts < 5; parts++) {
            x.check();
            x.told(16, parts);
            for (int left = parts; left > 0; left--) {
                due.is(parts + " parts", x.left(), left);
                x.told(0, 0);
            }
            due.is(parts + " parts, all are done", x.left(), 0);
        }
    }

    private static void refusedOnesStay() {
        TaskWeaver x = Domains.small();
        x.check();
        x.told(0, 0);
        x.told(16, 99);
        x.told(16, 0);
        due.is("refused: not the first, no method, no condition", x.left(), 2);
        x.told(16, 1);
        x.told(0, 0);
        due.is("one part is done", x.left(), 2);
        x.told(1, 0);
        due.is("refused: it cannot be done", x.left(), 2);
    }

    /** Six aims, and 48 times a task with five parts in its place. */
    private static void theLongestRow() {
        TaskWeaver x = Domains.compounds(1);
        Domains.method(x, 16, 16, 16, 16, 16, 16);
        Domains.aims(x, 16, 16, 16, 16, 16, 16);
        x.check();
        for (int taken = 0; taken <= 48; taken++) {
            due.is(taken + " are taken", x.left(), 6 + 4 * taken);
            x.told(16, 0);
        }
        due.is("no more are taken", x.left(), 6 + 4 * 48);
    }

    private static void askingChangesNothing() {
        new Twins(due).unchangedInAllSituations("left", Domains::small, TaskWeaver::left);
    }
}
