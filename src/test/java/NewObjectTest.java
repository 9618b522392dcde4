/** Promise 1: a new object. */
public final class NewObjectTest {
    private static final Due due = new Due();

    public static void main(String[] args) {
        noTasks();
        noMethods();
        noAims();
        startFactsAreZero();
        noSearch();
        checkerHasNotBegun();
        noCycle();
        objectsAreApart();
        theLastOf512Calls();
        due.end();
    }

    /** "No tasks": neither the first codes nor any other. */
    private static void noTasks() {
        TaskWeaver x = new TaskWeaver();
        for (int code = -1; code <= 28; code++) {
            due.is("new: aim(" + code + ")", x.aim(code), TaskWeaver.NONE);
            due.is("new: method(" + code + ", 0, 0)", x.method(code, 0, 0), TaskWeaver.NONE);
        }
        due.is("new: the first primitive task", x.primitive(0, 0, 0, 0, 0), 0);
        due.is("new: the first compound task", x.compound(), 16);
    }

    /** "no methods" */
    private static void noMethods() {
        TaskWeaver x = new TaskWeaver();
        x.compound();
        for (int method = -1; method <= 40; method++) {
            due.is("new: part(" + method + ", 16)", x.part(method, 16), TaskWeaver.NONE);
        }
        due.is("new: the first method", x.method(16, 0, 0), 0);
    }

    /** "no aims" */
    private static void noAims() {
        due.is("new: check()", new TaskWeaver().check(), 0);
        due.is("new: forget()", new TaskWeaver().forget(), 0);
        due.is("new: plan(0) has nothing to do", new TaskWeaver().plan(0), TaskWeaver.FOUND);
    }

    /** "the facts at the start are 0" */
    private static void startFactsAreZero() {
        TaskWeaver x = new TaskWeaver();
        x.plan(0);
        due.is("new: the facts behind the empty plan", x.found(2), 0);
        x.primitive(0, Edges.ALL_BITS, 0, 0, 0);
        x.aim(0);
        x.check();
        due.is("new: no fact is there for the checker", x.told(0, 0), 0);
    }

    /** "No search" */
    private static void noSearch() {
        TaskWeaver x = new TaskWeaver();
        due.is("new: steps()", x.steps(), 0);
        due.is("new: another(0)", x.another(0), TaskWeaver.NONE);
        due.is("new: another(5000)", x.another(5000), TaskWeaver.NONE);
        due.is("new: task(0)", x.task(0), TaskWeaver.NONE);
        for (int what = -1; what <= 4; what++) {
            due.is("new: found(" + what + ")", x.found(what), TaskWeaver.NONE);
            due.is("new: node(0, " + what + ")", x.node(0, what), TaskWeaver.NONE);
        }
    }

    /** "the checker has not begun" */
    private static void checkerHasNotBegun() {
        TaskWeaver x = new TaskWeaver();
        due.is("new: told(0, 0)", x.told(0, 0), TaskWeaver.NONE);
        due.is("new: told(-1, -1)", x.told(-1, -1), TaskWeaver.NONE);
        due.is("new: left()", x.left(), TaskWeaver.NONE);
    }

    private static void noCycle() {
        due.is("new: cycle(0)", new TaskWeaver().cycle(0), TaskWeaver.NONE);
    }

    /** What was done with one object is not seen in the next one. */
    private static void objectsAreApart() {
        TaskWeaver x = Domains.small();
        x.start(65535);
        x.plan(5000);
        x.check();
        noTasks();
        noMethods();
        noAims();
        startFactsAreZero();
        noSearch();
        checkerHasNotBegun();
        due.is("the other object is as it was", x.left(), 2);
    }

    /** "An object is used for at most 512 calls after it has been made": the last one is still as it is due. */
    private static void theLastOf512Calls() {
        TaskWeaver x = new TaskWeaver();
        int calls = 0;
        x.primitive(1, 0, 0, 0, 0);
        x.compound();
        x.compound();
        for (int i = 0; i < 5; i++) {
            x.method(16, 0, 0);
            x.method(17, 0, 0);
            x.part(2 * i, 17);
        }
        calls += 3 + 15;
        for (int i = 0; i < 5; i++) {
            x.aim(16);
        }
        x.aim(0);
        calls += 6;
        int searched = 0;
        for (; calls < 511; calls++) {
            due.is("call " + calls + ": plan(5000)", x.plan(5000), TaskWeaver.MORE);
            searched++;
        }
        due.is("call 512: steps()", x.steps(), 5000 * searched);
    }
}
