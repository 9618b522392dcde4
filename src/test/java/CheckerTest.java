/** Promises 16 to 18: check, told and left. */
public final class CheckerTest {
    private static final Due due = new Due();
    private static final int MIN = Integer.MIN_VALUE;
    private static final int MAX = Integer.MAX_VALUE;

    public static void main(String[] args) {
        notBegun();
        everyFault();
        firstFaultGoesBefore();
        conditionsInTheFactsThatAreThere();
        partsComeFirst();
        beginsAnew();
        fortyEightAreTaken();
        worksInACycle();
        foundTreeIsRight();
        due.end();
    }

    private static void notBegun() {
        TaskWeaver x = new TaskWeaver();
        x.primitive(0, 0, 0, 0, 0);
        x.aim(0);
        due.is("not begun: told", x.told(0, 0), TaskWeaver.NONE);
        due.is("not begun: left", x.left(), TaskWeaver.NONE);
        x.plan(5);
        due.is("a search begins no checker", x.left(), TaskWeaver.NONE);
        due.is("check", x.check(), 1);
        due.is("begun: left", x.left(), 1);
        x.start(0);
        due.is("ended: left", x.left(), TaskWeaver.NONE);
        due.is("ended: told", x.told(0, 0), TaskWeaver.NONE);
    }

    private static TaskWeaver mixed() {
        TaskWeaver x = new TaskWeaver();
        x.primitive(1, 0, 2, 0, 0);
        x.primitive(4, 0, 0, 0, 0);
        x.compound();
        x.compound();
        x.method(16, 0, 0);
        x.method(16, 4, 0);
        x.method(17, 0, 0);
        x.method(17, 0, 1);
        x.part(0, 0);
        x.part(0, 1);
        x.start(1);
        x.aim(17);
        x.aim(16);
        return x;
    }

    private static void everyFault() {
        TaskWeaver x = mixed();
        due.is("faults: check", x.check(), 2);
        for (int bad : new int[] {16, 0, -1, 18, MIN, MAX}) {
            due.is("2, not the first: " + bad, x.told(bad, 2), 2);
        }
        for (int bad : new int[] {0, 1, 4, -1, MIN, MAX}) {
            due.is("5, no method of 17: " + bad, x.told(17, bad), 5);
        }
        due.is("6, a lack", x.told(17, 3), 6);
        due.is("nothing was taken", x.left(), 2);
        due.is("17 is right", x.told(17, 2), 0);
        due.is("one is left", x.left(), 1);
        due.is("6, a need", x.told(16, 1), 6);
        due.is("16 is right", x.told(16, 0), 0);
        due.is("two are left", x.left(), 2);
        due.is("any int for a primitive one", x.told(0, MIN), 0);
        due.is("4, a need of a primitive one", x.told(1, 0), 4);
        due.is("4 takes nothing", x.left(), 1);
        TaskWeaver y = new TaskWeaver();
        y.check();
        due.is("1, nothing is to be done", y.told(0, 0), 1);
        due.is("1, for no task", y.told(-1, -1), 1);
        due.is("1 takes nothing", y.left(), 0);
    }

    private static void firstFaultGoesBefore() {
        TaskWeaver x = mixed();
        x.check();
        due.is("2 before 5", x.told(16, 99), 2);
        due.is("2 before 4", x.told(1, 0), 2);
        due.is("5 before 6", x.told(17, 1), 5);
    }

    private static void conditionsInTheFactsThatAreThere() {
        TaskWeaver x = new TaskWeaver();
        x.primitive(0, 2, 2, 1, 0);
        x.compound();
        x.method(16, 2, 0);
        x.method(16, 0, 2);
        x.start(1);
        x.aim(16);
        x.aim(0);
        x.aim(16);
        x.aim(0);
        x.check();
        due.is("need is not yet there", x.told(16, 0), 6);
        due.is("lack holds yet", x.told(16, 1), 0);
        due.is("does it", x.told(0, 0), 0);
        due.is("lack holds no longer", x.told(16, 1), 6);
        due.is("need is there now", x.told(16, 0), 0);
        due.is("cannot be done twice", x.told(0, 0), 4);
        due.is("one is left", x.left(), 1);
    }

    private static void partsComeFirst() {
        TaskWeaver x = new TaskWeaver();
        for (int i = 0; i < 5; i++) {
            x.primitive(0, 0, 0, 0, 0);
        }
        x.compound();
        x.compound();
        x.method(16, 0, 0);
        x.part(0, 1);
        x.part(0, 17);
        x.part(0, 3);
        x.method(17, 0, 0);
        x.part(1, 2);
        x.part(1, 4);
        x.aim(16);
        x.aim(0);
        due.is("parts: check", x.check(), 2);
        int[][] tree = {{16, 0, 4}, {1, 9, 3}, {17, 1, 4}, {2, 9, 3}, {4, 9, 2}, {3, 9, 1}, {0, 9, 0}};
        for (int[] node : tree) {
            due.is("parts: too early", x.told(node[0] == 0 ? 1 : 0, 0), 2);
            due.is("parts: told " + node[0], x.told(node[0], node[1]), 0);
            due.is("parts: left behind " + node[0], x.left(), node[2]);
        }
        due.is("parts: nothing is left", x.told(0, 0), 1);
    }

    private static void beginsAnew() {
        TaskWeaver x = mixed();
        x.check();
        x.told(17, 2);
        x.told(16, 0);
        x.told(0, 0);
        due.is("anew: check", x.check(), 2);
        due.is("anew: left", x.left(), 2);
        due.is("anew: the first task again", x.told(17, 2), 0);
        x.told(16, 0);
        due.is("anew: with the facts at the start", x.told(0, 0), 0);
    }

    private static void fortyEightAreTaken() {
        TaskWeaver x = new TaskWeaver();
        x.primitive(0, 1, 0, 0, 0);
        x.compound();
        x.method(16, 0, 0);
        for (int i = 0; i < 4; i++) {
            x.part(0, 16);
        }
        x.part(0, 0);
        x.method(16, 1, 0);
        x.aim(16);
        for (int i = 0; i < 5; i++) {
            x.aim(0);
        }
        due.is("48: check", x.check(), 6);
        for (int i = 0; i < 48; i++) {
            due.is("48: told " + i, x.told(16, 0), 0);
            due.is("48: left " + i, x.left(), 6 + 4 * (i + 1));
        }
        due.is("3, 48 were taken", x.told(16, 0), 3);
        due.is("3 before 5", x.told(16, 7), 3);
        due.is("3 before 6", x.told(16, 1), 3);
        due.is("2 before 3", x.told(0, 0), 2);
        due.is("48: nothing more is taken", x.left(), 6 + 4 * 48);
        due.is("48: check anew", x.check(), 6);
        due.is("48: and it is right again", x.told(16, 0), 0);
    }

    private static void worksInACycle() {
        TaskWeaver x = new TaskWeaver();
        x.compound();
        x.method(16, 0, 0);
        x.method(16, 0, 0);
        x.part(0, 16);
        x.aim(16);
        due.is("cycle: plan", x.plan(5), TaskWeaver.CYCLIC);
        due.is("cycle: check", x.check(), 1);
        due.is("cycle: told", x.told(16, 0), 0);
        due.is("cycle: left", x.left(), 1);
        due.is("cycle: told", x.told(16, 1), 0);
        due.is("cycle: left", x.left(), 0);
        due.is("cycle: 1", x.told(16, 1), 1);
    }

    private static void foundTreeIsRight() {
        TaskWeaver x = mixed();
        x.primitive(2, 0, 4, 0, 0);
        x.forget();
        x.aim(0);
        x.aim(2);
        x.aim(17);
        x.aim(16);
        due.is("found: plan", x.plan(100), TaskWeaver.FOUND);
        due.is("found: nodes", x.found(3), 6);
        x.check();
        for (int k = 0; k < 6; k++) {
            due.is("found: told node " + k, x.told(x.node(k, 0), x.node(k, 2)), 0);
        }
        due.is("found: left", x.left(), 0);
        due.is("found: the plan stays", x.found(0), 4);
    }
}
