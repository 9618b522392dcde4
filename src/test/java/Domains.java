/** Domains that more than one test needs. */
final class Domains {
    /** Of the tree that wide(4) leads to: 48 tasks are taken, and 1 + 5 + 1 + 1 + 1 methods are tried. */
    static final int STEPS_OF_48_NODES = 48 + 9;
    /** And the primitive ones among its nodes. */
    static final int PLAN_OF_48_NODES = 25 + 5 + 5 + 4;
    /** Of longSearch(): each 16 is taken, 5 methods tried, 4 parts done, and each way through five 16 ends with 0. */
    static final int LONG_STEPS = (1 + 5 + 25 + 125 + 625) * (1 + 5 + 4) + 3125;

    private Domains() {
    }

    static TaskWeaver compounds(int count) {
        TaskWeaver x = new TaskWeaver();
        for (int i = 0; i < count; i++) {
            x.compound();
        }
        return x;
    }

    /** Primitive tasks that can always be done and do nothing, for the price of their code. */
    static void idlePrimitives(TaskWeaver x, int count) {
        for (int i = 0; i < count; i++) {
            x.primitive(0, 0, 0, 0, i);
        }
    }

    static void aims(TaskWeaver x, int... tasks) {
        for (int task : tasks) {
            x.aim(task);
        }
    }

    /** A method that holds in all facts. */
    static int method(TaskWeaver x, int task, int... parts) {
        return methodIf(x, task, 0, 0, parts);
    }

    static int methodIf(TaskWeaver x, int task, int need, int lack, int... parts) {
        int method = x.method(task, need, lack);
        for (int part : parts) {
            x.part(method, part);
        }
        return method;
    }

    /**
     * Aims 16 and 0. Of the methods of 16, the first does not hold, the second leads to a failing of 1, the third
     * leads to a plan, the fourth by way of 17 to another one.
     */
    static void small(TaskWeaver x) {
        x.primitive(0, 0, 1, 0, 10);
        x.primitive(2, 0, 4, 0, 20);
        x.compound();
        x.compound();
        methodIf(x, 16, 8, 0);
        methodIf(x, 16, 0, 0, 0, 1);
        methodIf(x, 16, 0, 1, 0);
        methodIf(x, 16, 0, 0, 17);
        methodIf(x, 17, 0, 1);
        aims(x, 16, 0);
    }

    static TaskWeaver small() {
        TaskWeaver x = new TaskWeaver();
        small(x);
        return x;
    }

    /** The small domain with all that it can hold: nothing can be added to it but parts. */
    static void full(TaskWeaver x) {
        small(x);
        for (int i = 2; i < 12; i++) {
            x.primitive(0, 0, 0, 0, i);
            x.compound();
        }
        for (int i = 5; i < 40; i++) {
            x.method(18 + i % 10, 0, 0);
        }
        for (int i = 0; i < 5; i++) {
            x.part(39, 5);
        }
        aims(x, 2, 3, 11, 18);
    }

    /** Aims whose tree has 31 + 6 + 6 + 1 nodes, and those of the parts of 18, the last aim. */
    static TaskWeaver wide(int... partsOfLast) {
        TaskWeaver x = new TaskWeaver();
        x.primitive(0, 0, 0, 0, 100);
        for (int i = 0; i < 4; i++) {
            x.compound();
        }
        method(x, 16, 17, 17, 17, 17, 17);
        method(x, 17, 0, 0, 0, 0, 0);
        method(x, 18, partsOfLast);
        method(x, 19);
        aims(x, 16, 17, 17, 18);
        return x;
    }

    /** Its search finds one plan in 11 steps, and behind it comes to its end in LONG_STEPS in all. */
    static TaskWeaver longSearch() {
        TaskWeaver x = new TaskWeaver();
        x.primitive(0, 1, 0, 0, 0);
        x.primitive(0, 0, 1, 0, 0);
        x.compound();
        method(x, 16);
        for (int i = 0; i < 4; i++) {
            method(x, 16, 1);
        }
        aims(x, 16, 16, 16, 16, 16, 0);
        return x;
    }
}
