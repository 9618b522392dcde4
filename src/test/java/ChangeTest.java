import java.util.function.ToIntFunction;

/** The term of the domain's change: each of the seven calls ends the search and the checker, wherever they are. */
public final class ChangeTest {
    private static final Due due = new Due();

    public static void main(String[] args) {
        everyCall("primitive", x -> x.primitive(0, 0, 0, 0, 0), 2);
        everyCall("compound", TaskWeaver::compound, 18);
        everyCall("method", x -> x.method(17, 8, 0), 5);
        everyCall("part", x -> x.part(0, 0), 1);
        everyCall("start with the same facts", x -> x.start(0) ? 1 : 0, 1);
        everyCall("start with other facts", x -> x.start(64) ? 1 : 0, 1);
        everyCall("aim", x -> x.aim(0), 3);
        everyCall("forget", TaskWeaver::forget, 2);
        theNewSearchTakesTheNewDomain();
        theNewCheckTakesTheNewDomain();
        due.end();
    }

    /** Plans of the small domain: 0 steps, a node that is open, one that is kept, one that is open again, and found. */
    private static void everyCall(String name, ToIntFunction<TaskWeaver> change, int answer) {
        for (int fuel : new int[] {0, 1, 3, 5, 5000}) {
            TaskWeaver x = Domains.small();
            x.plan(fuel);
            x.check();
            isEnded(name + " behind plan(" + fuel + ")", x, change, answer);
        }
        TaskWeaver x = Domains.small();
        x.plan(5000);
        x.another(5000);
        x.another(5000);
        due.is(name + " at the end: plan(0)", x.plan(0), TaskWeaver.END);
        x.check();
        x.told(16, 2);
        isEnded(name + " at the end", x, change, answer);
        isEnded(name + " without a search", Domains.small(), change, answer);
    }

    private static void isEnded(String name, TaskWeaver x, ToIntFunction<TaskWeaver> change, int answer) {
        due.is(name, change.applyAsInt(x), answer);
        due.is(name + ": steps()", x.steps(), 0);
        due.is(name + ": another(10)", x.another(10), TaskWeaver.NONE);
        due.is(name + ": task(0)", x.task(0), TaskWeaver.NONE);
        for (int what = 0; what < 4; what++) {
            due.is(name + ": found(" + what + ")", x.found(what), TaskWeaver.NONE);
            due.is(name + ": node(0, " + what + ")", x.node(0, what), TaskWeaver.NONE);
        }
        due.is(name + ": told(16, 2)", x.told(16, 2), TaskWeaver.NONE);
        due.is(name + ": left()", x.left(), TaskWeaver.NONE);
        // Only behind forget() there is nothing to do.
        boolean hasAims = x.check() > 0;
        due.is(name + ": a new search", x.plan(0), hasAims ? TaskWeaver.MORE : TaskWeaver.FOUND);
        due.is(name + ": its steps", x.steps(), 0);
        due.is(name + ": its tree", x.node(0, 0), TaskWeaver.NONE);
        if (hasAims) {
            due.is(name + ": its first step", x.plan(1), TaskWeaver.MORE);
            due.is(name + ": its first node", x.node(0, 0), 16);
            due.is(name + ": its first node is open", x.node(0, 2), TaskWeaver.NONE);
            due.is(name + ": it has no other", x.node(1, 0), TaskWeaver.NONE);
        }
    }

    private static void theNewSearchTakesTheNewDomain() {
        TaskWeaver x = new TaskWeaver();
        Domains.idlePrimitives(x, 3);
        Domains.aims(x, 0, 1);
        due.is("two aims: plan(5)", x.plan(5), TaskWeaver.FOUND);
        x.aim(2);
        x.start(9);
        due.is("three aims: plan(5)", x.plan(5), TaskWeaver.FOUND);
        due.is("three aims: tasks", x.found(0), 3);
        due.is("three aims: steps", x.steps(), 3);
        due.is("three aims: facts", x.found(2), 9);
    }

    private static void theNewCheckTakesTheNewDomain() {
        TaskWeaver x = new TaskWeaver();
        x.primitive(1, 0, 0, 0, 0);
        x.aim(0);
        x.check();
        due.is("facts 0: told(0, 0)", x.told(0, 0), 4);
        x.start(1);
        x.aim(0);
        due.is("facts 1: check()", x.check(), 2);
        due.is("facts 1: told(0, 0)", x.told(0, 0), 0);
    }
}
