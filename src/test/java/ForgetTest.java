/** Promise 8: forget. */
public final class ForgetTest {
    private static final Due due = new Due();

    public static void main(String[] args) {
        howManyThereWere();
        noAimsAnyMore();
        nothingElseIsForgotten();
        forgettingNoneChangesTheDomain();
        due.end();
    }

    /** "How many there were", from none to all six. */
    private static void howManyThereWere() {
        TaskWeaver x = new TaskWeaver();
        Domains.idlePrimitives(x, 1);
        for (int count = 0; count <= 6; count++) {
            for (int i = 0; i < count; i++) {
                x.aim(0);
            }
            due.is("forget() of " + count, x.forget(), count);
            due.is("forget() again", x.forget(), 0);
        }
    }

    /** "There are no aims any more." */
    private static void noAimsAnyMore() {
        TaskWeaver x = new TaskWeaver();
        Domains.idlePrimitives(x, 2);
        Domains.aims(x, 0, 0, 0, 0, 0, 0);
        x.forget();
        due.is("forgotten: check()", x.check(), 0);
        due.is("forgotten: plan(0)", x.plan(0), TaskWeaver.FOUND);
        due.is("forgotten: aims are counted from 1 again", x.aim(1), 1);
        due.is("forgotten: plan(1)", x.plan(1), TaskWeaver.FOUND);
        due.is("forgotten: the new aim alone", x.found(0), 1);
        due.is("forgotten: the new aim", x.task(0), 1);
    }

    private static void nothingElseIsForgotten() {
        TaskWeaver x = Domains.small();
        x.start(64);
        x.forget();
        Domains.aims(x, 16, 0);
        due.is("tasks and methods stay: plan", x.plan(5000), TaskWeaver.FOUND);
        due.is("tasks and methods stay: method", x.node(0, 2), 2);
        due.is("the facts at the start stay", x.found(2), 65);
        due.is("primitive tasks stay", x.primitive(0, 0, 0, 0, 0), 2);
        due.is("compound tasks stay", x.compound(), 18);
        due.is("methods stay", x.method(16, 0, 0), 5);
        due.is("parts stay", x.part(1, 0), 3);
    }

    /** "the domain is changed by it also if that is 0" */
    private static void forgettingNoneChangesTheDomain() {
        TaskWeaver x = new TaskWeaver();
        x.plan(0);
        x.check();
        due.is("forget() of none", x.forget(), 0);
        due.is("there is no search any more", x.found(0), TaskWeaver.NONE);
        due.is("the checker has not begun: left()", x.left(), TaskWeaver.NONE);
        due.is("the checker has not begun: told()", x.told(0, 0), TaskWeaver.NONE);
        x.plan(0);
        x.another(0);
        due.is("a search at its end", x.plan(0), TaskWeaver.END);
        due.is("forget() of none again", x.forget(), 0);
        due.is("a new search", x.plan(0), TaskWeaver.FOUND);
    }
}
