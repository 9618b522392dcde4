/** Promises 1 to 8: a new object, and all that changes the domain. */
public final class DomainTest {
    private static final Due due = new Due();
    private static final int MIN = Integer.MIN_VALUE;
    private static final int MAX = Integer.MAX_VALUE;

    public static void main(String[] args) {
        newObject();
        newObjectPlansNothing();
        primitiveCodes();
        primitiveRefuses();
        primitiveIsKept();
        compoundCodes();
        methodNumbers();
        methodRefuses();
        methodsInAll();
        parts();
        startFacts();
        aims();
        forgetting();
        changesEndSearchAndChecker();
        refusalsChangeNothing();
        due.end();
    }

    private static void newObject() {
        TaskWeaver x = new TaskWeaver();
        due.is("new: steps", x.steps(), 0);
        due.is("new: task", x.task(0), TaskWeaver.NONE);
        for (int what = -1; what <= 4; what++) {
            due.is("new: found " + what, x.found(what), TaskWeaver.NONE);
            due.is("new: node " + what, x.node(0, what), TaskWeaver.NONE);
        }
        due.is("new: another", x.another(10), TaskWeaver.NONE);
        due.is("new: told", x.told(0, 0), TaskWeaver.NONE);
        due.is("new: left", x.left(), TaskWeaver.NONE);
        due.is("new: cycle", x.cycle(0), TaskWeaver.NONE);
        due.is("new: no primitive task", x.aim(0), TaskWeaver.NONE);
        due.is("new: no compound task", x.aim(16), TaskWeaver.NONE);
        due.is("new: no method", x.part(0, 0), TaskWeaver.NONE);
        due.is("new: no aims to check", x.check(), 0);
        due.is("new: no aims", x.forget(), 0);
    }

    private static void newObjectPlansNothing() {
        TaskWeaver x = new TaskWeaver();
        due.is("nothing to do: plan(0)", x.plan(0), TaskWeaver.FOUND);
        due.is("nothing to do: steps", x.steps(), 0);
        due.is("nothing to do: length", x.found(0), 0);
        due.is("nothing to do: cost", x.found(1), 0);
        due.is("nothing to do: the facts are 0", x.found(2), 0);
        due.is("nothing to do: nodes", x.found(3), 0);
        due.is("nothing to do: another(0)", x.another(0), TaskWeaver.END);
        due.is("nothing to do: plan again", x.plan(5000), TaskWeaver.END);
        due.is("nothing to do: found at the end", x.found(0), TaskWeaver.NONE);
    }

    private static void primitiveCodes() {
        TaskWeaver x = new TaskWeaver();
        for (int code = 0; code < 12; code++) {
            due.is("primitive " + code, x.primitive(0, 0, 0, 0, 0), code);
        }
        due.is("a 13th primitive", x.primitive(0, 0, 0, 0, 0), TaskWeaver.NONE);
        due.is("the last primitive is a task", x.aim(11), 1);
        for (int code = 12; code < 16; code++) {
            due.is("no task " + code, x.aim(code), TaskWeaver.NONE);
        }
        due.is("compound behind 12 primitives", x.compound(), 16);
    }

    private static void primitiveRefuses() {
        TaskWeaver x = new TaskWeaver();
        for (int bad : new int[] {-1, 65536, MIN, MAX, 1 << 16}) {
            due.is("need " + bad, x.primitive(bad, 0, 0, 0, 0), TaskWeaver.NONE);
            due.is("lack " + bad, x.primitive(0, bad, 0, 0, 0), TaskWeaver.NONE);
            due.is("add " + bad, x.primitive(0, 0, bad, 0, 0), TaskWeaver.NONE);
            due.is("drop " + bad, x.primitive(0, 0, 0, bad, 0), TaskWeaver.NONE);
        }
        for (int bad : new int[] {-1, 101, MIN, MAX}) {
            due.is("cost " + bad, x.primitive(0, 0, 0, 0, bad), TaskWeaver.NONE);
        }
        due.is("the least of all", x.primitive(0, 0, 0, 0, 0), 0);
        due.is("need, the most", x.primitive(65535, 0, 0, 0, 0), 1);
        due.is("lack, the most", x.primitive(0, 65535, 0, 0, 0), 2);
        due.is("add, the most", x.primitive(0, 0, 65535, 0, 0), 3);
        due.is("drop, the most", x.primitive(0, 0, 0, 65535, 0), 4);
        due.is("cost, the most", x.primitive(0, 0, 0, 0, 100), 5);
    }

    private static void primitiveIsKept() {
        TaskWeaver x = new TaskWeaver();
        x.primitive(0b0011, 0b0100, 0b1001, 0b0011, 42);
        x.start(0b0011);
        x.aim(0);
        due.is("need and lack hold", x.plan(1), TaskWeaver.FOUND);
        due.is("dropped first, then added", x.found(2), 0b1001);
        due.is("its cost", x.found(1), 42);
        x.start(0b0001);
        due.is("one bit of the need is missing", x.plan(1), TaskWeaver.END);
        x.start(0b0111);
        due.is("a bit of the lack is there", x.plan(1), TaskWeaver.END);
        x.start(0b1000000000010011);
        due.is("other bits are free", x.plan(1), TaskWeaver.FOUND);
        due.is("and stay", x.found(2), 0b1000000000011001);
    }

    private static void compoundCodes() {
        TaskWeaver x = new TaskWeaver();
        for (int code = 16; code < 28; code++) {
            due.is("compound " + code, x.compound(), code);
        }
        due.is("a 13th compound", x.compound(), TaskWeaver.NONE);
        due.is("the last compound is a task", x.aim(27), 1);
        due.is("no task 28", x.aim(28), TaskWeaver.NONE);
        due.is("primitive behind 12 compounds", x.primitive(0, 0, 0, 0, 0), 0);
    }

    private static void methodNumbers() {
        TaskWeaver x = new TaskWeaver();
        x.compound();
        x.compound();
        for (int i = 0; i < 5; i++) {
            due.is("method of 16, " + i, x.method(16, 0, 0), 2 * i);
            due.is("method of 17, " + i, x.method(17, 65535, 65535), 2 * i + 1);
        }
        due.is("a sixth of 16", x.method(16, 0, 0), TaskWeaver.NONE);
        due.is("a sixth of 17", x.method(17, 0, 0), TaskWeaver.NONE);
        x.compound();
        due.is("a refused one takes no number", x.method(18, 0, 0), 10);
    }

    private static void methodRefuses() {
        TaskWeaver x = new TaskWeaver();
        x.primitive(0, 0, 0, 0, 0);
        x.compound();
        for (int bad : new int[] {0, 1, -1, 15, 17, 27, 28, MIN, MAX}) {
            due.is("method of " + bad, x.method(bad, 0, 0), TaskWeaver.NONE);
        }
        for (int bad : new int[] {-1, 65536, MIN, MAX}) {
            due.is("method that needs " + bad, x.method(16, bad, 0), TaskWeaver.NONE);
            due.is("method that lacks " + bad, x.method(16, 0, bad), TaskWeaver.NONE);
        }
        due.is("first right method", x.method(16, 65535, 65535), 0);
    }

    private static void methodsInAll() {
        TaskWeaver x = new TaskWeaver();
        for (int i = 0; i < 9; i++) {
            x.compound();
        }
        for (int i = 0; i < 40; i++) {
            due.is("method in all " + i, x.method(16 + i / 5, 0, 0), i);
        }
        due.is("a 41st method", x.method(24, 0, 0), TaskWeaver.NONE);
        due.is("part of the last method", x.part(39, 16), 1);
        due.is("part of none", x.part(40, 16), TaskWeaver.NONE);
    }

    private static void parts() {
        TaskWeaver x = new TaskWeaver();
        x.primitive(0, 0, 0, 0, 0);
        x.compound();
        x.compound();
        x.method(16, 0, 0);
        x.method(17, 0, 0);
        for (int bad : new int[] {-1, 2, MIN, MAX}) {
            due.is("part of method " + bad, x.part(bad, 0), TaskWeaver.NONE);
        }
        for (int bad : new int[] {-1, 1, 12, 15, 18, MIN, MAX}) {
            due.is("part " + bad, x.part(0, bad), TaskWeaver.NONE);
        }
        due.is("its own task", x.part(0, 16), 1);
        due.is("another compound", x.part(0, 17), 2);
        due.is("a primitive one", x.part(0, 0), 3);
        due.is("a fourth", x.part(0, 0), 4);
        due.is("a fifth", x.part(0, 0), 5);
        due.is("a sixth", x.part(0, 0), TaskWeaver.NONE);
        due.is("of the other method", x.part(1, 0), 1);
    }

    private static void startFacts() {
        TaskWeaver x = new TaskWeaver();
        for (int bad : new int[] {-1, 65536, MIN, MAX}) {
            due.is("start " + bad, x.start(bad), false);
        }
        for (int good : new int[] {65535, 1, 32768, 0}) {
            due.is("start " + good, x.start(good), true);
            due.is("plan from " + good, x.plan(0), TaskWeaver.FOUND);
            due.is("facts " + good, x.found(2), good);
        }
        x.start(77);
        x.start(-5);
        due.is("plan from 77", x.plan(0), TaskWeaver.FOUND);
        due.is("a refused start changes no facts", x.found(2), 77);
    }

    private static void aims() {
        TaskWeaver x = new TaskWeaver();
        for (int i = 0; i < 6; i++) {
            x.primitive(0, 0, 0, 0, i);
        }
        x.compound();
        for (int bad : new int[] {-1, 6, 11, 12, 15, 17, MIN, MAX}) {
            due.is("aim " + bad, x.aim(bad), TaskWeaver.NONE);
        }
        for (int i = 0; i < 6; i++) {
            due.is("aim number " + i, x.aim(5 - i), i + 1);
        }
        due.is("a seventh aim", x.aim(0), TaskWeaver.NONE);
        due.is("aims to check", x.check(), 6);
        due.is("plan of six", x.plan(6), TaskWeaver.FOUND);
        for (int i = 0; i < 6; i++) {
            due.is("aims in their order " + i, x.task(i), 5 - i);
        }
    }

    private static void forgetting() {
        TaskWeaver x = new TaskWeaver();
        x.primitive(0, 0, 0, 0, 0);
        x.aim(0);
        x.aim(0);
        due.is("forget two", x.forget(), 2);
        due.is("forget none", x.forget(), 0);
        due.is("aims count from one again", x.aim(0), 1);
        due.is("tasks are not forgotten", x.plan(1), TaskWeaver.FOUND);
        due.is("one aim", x.found(0), 1);
        x.forget();
        due.is("a plan without aims", x.plan(0), TaskWeaver.FOUND);
        x.check();
        due.is("forget none again", x.forget(), 0);
        due.is("a forget of none ends the search", x.found(0), TaskWeaver.NONE);
        due.is("a forget of none ends the checker", x.left(), TaskWeaver.NONE);
    }

    private static TaskWeaver busy() {
        TaskWeaver x = new TaskWeaver();
        x.primitive(0, 0, 1, 0, 3);
        x.compound();
        x.method(16, 0, 0);
        x.part(0, 0);
        x.aim(16);
        due.is("busy: plan", x.plan(10), TaskWeaver.FOUND);
        due.is("busy: check", x.check(), 1);
        return x;
    }

    private static void isEnded(String change, TaskWeaver x) {
        due.is(change + " ends the search: steps", x.steps(), 0);
        due.is(change + " ends the search: found", x.found(0), TaskWeaver.NONE);
        due.is(change + " ends the search: task", x.task(0), TaskWeaver.NONE);
        due.is(change + " ends the search: node", x.node(0, 0), TaskWeaver.NONE);
        due.is(change + " ends the search: another", x.another(10), TaskWeaver.NONE);
        due.is(change + " ends the checker: told", x.told(16, 0), TaskWeaver.NONE);
        due.is(change + " ends the checker: left", x.left(), TaskWeaver.NONE);
        due.is(change + ": a new search begins at the start", x.plan(0), TaskWeaver.MORE);
        due.is(change + ": without steps", x.steps(), 0);
    }

    private static void changesEndSearchAndChecker() {
        TaskWeaver x = busy();
        due.is("change by primitive", x.primitive(0, 0, 0, 0, 0), 1);
        isEnded("primitive", x);
        x = busy();
        due.is("change by compound", x.compound(), 17);
        isEnded("compound", x);
        x = busy();
        due.is("change by method", x.method(16, 0, 0), 1);
        isEnded("method", x);
        x = busy();
        due.is("change by part", x.part(0, 0), 2);
        isEnded("part", x);
        x = busy();
        due.is("change by start, with the same facts", x.start(0), true);
        isEnded("start", x);
        x = busy();
        due.is("change by aim", x.aim(0), 2);
        isEnded("aim", x);
        x = busy();
        due.is("change by forget", x.forget(), 1);
        x.aim(16);
        isEnded("forget", x);
    }

    private static void refusalsChangeNothing() {
        TaskWeaver x = busy();
        x.primitive(-1, 0, 0, 0, 0);
        x.primitive(0, 0, 0, 0, 101);
        x.method(17, 0, 0);
        x.method(16, -1, 0);
        x.part(1, 0);
        x.part(0, 1);
        x.start(-1);
        x.start(65536);
        x.aim(1);
        due.is("refused: steps stay", x.steps(), 3);
        due.is("refused: the plan stays", x.found(0), 1);
        due.is("refused: the tree stays", x.node(1, 0), 0);
        due.is("refused: the checker stays", x.left(), 1);
        due.is("refused: and goes on", x.told(16, 0), 0);
        for (int i = 0; i < 11; i++) {
            x.compound();
        }
        x.plan(10);
        x.check();
        due.is("refused compound", x.compound(), TaskWeaver.NONE);
        due.is("refused compound: the plan stays", x.found(0), 1);
        due.is("refused compound: the checker stays", x.left(), 1);
    }
}
