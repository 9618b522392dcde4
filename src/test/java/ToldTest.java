/** Promise 17: told. */
public final class ToldTest {
    private static final Due due = new Due();
    private static final Twins twins = new Twins(due);
    private static final int[] SOME_INTS = {0, 1, -1, 39, 40, Edges.MIN, Edges.MAX};

    public static void main(String[] args) {
        notBegun();
        right();
        anyIntForAPrimitiveOne();
        partsComeFirst();
        nothingIsToBeDone();
        notTheFirstTask();
        fortyEightWereTaken();
        refusedOnesAreNotTaken();
        aPrimitiveConditionDoesNotHold();
        noSuchMethod();
        aMethodsConditionDoesNotHold();
        nothingToDoGoesBeforeFortyEight();
        notTheFirstGoesBeforeTheOthers();
        fortyEightGoesBeforeConditions();
        noSuchMethodGoesBeforeItsCondition();
        whatIsRefusedChangesNothing();
        whatIsRefusedLeavesTheFacts();
        notBegunChangesNothing();
        aFoundTreeIsRight();
        leavesTheSearchAlone();
        due.end();
    }

    /** "NONE when it has not begun.": not yet, or no longer, whatever is told. */
    private static void notBegun() {
        TaskWeaver x = Domains.small();
        isNone("not yet", x);
        x.plan(5000);
        isNone("a search begins no checker", x);
        x.check();
        x.told(16, 2);
        x.aim(0);
        isNone("no longer", x);
        x.check();
        due.is("begun: told(16, 2)", x.told(16, 2), 0);
    }

    private static void isNone(String name, TaskWeaver x) {
        for (int task : new int[] {16, 0, -1, Edges.MIN, Edges.MAX}) {
            for (int method : SOME_INTS) {
                due.is(name + ": told(" + task + ", " + method + ")", x.told(task, method), TaskWeaver.NONE);
            }
        }
    }

    /** "0 when it is right": also by a method that a search would not have come to. */
    private static void right() {
        TaskWeaver x = Domains.small();
        x.check();
        due.is("right: told(16, 3)", x.told(16, 3), 0);
        due.is("right: told(17, 4)", x.told(17, 4), 0);
        due.is("right: told(0, 0)", x.told(0, 0), 0);
        due.is("right: left()", x.left(), 0);
    }

    /** "(any int for a primitive one)" */
    private static void anyIntForAPrimitiveOne() {
        TaskWeaver x = new TaskWeaver();
        Domains.idlePrimitives(x, 1);
        x.aim(0);
        for (int method : SOME_INTS) {
            x.check();
            due.is("told(0, " + method + ")", x.told(0, method), 0);
        }
    }

    private static void partsComeFirst() {
        TaskWeaver x = Domains.compounds(2);
        Domains.idlePrimitives(x, 5);
        Domains.method(x, 16, 1, 17, 3);
        Domains.method(x, 17, 2, 4);
        Domains.aims(x, 16, 0);
        x.check();
        int[][] nodes = {{16, 0, 4}, {1, 9, 3}, {17, 1, 4}, {2, 9, 3}, {4, 9, 2}, {3, 9, 1}, {0, 9, 0}};
        for (int[] node : nodes) {
            due.is("parts: too early", x.told(node[0] == 0 ? 1 : 0, 0), 2);
            due.is("parts: told " + node[0], x.told(node[0], node[1]), 0);
            due.is("parts: left behind " + node[0], x.left(), node[2]);
        }
        due.is("parts: nothing is left", x.told(0, 0), 1);
    }

    /** "1 nothing is to be done": without aims, and behind the last task. */
    private static void nothingIsToBeDone() {
        TaskWeaver x = new TaskWeaver();
        Domains.idlePrimitives(x, 1);
        x.check();
        isNothingToDo("no aims", x);
        x.aim(0);
        x.check();
        due.is("the last task", x.told(0, 0), 0);
        isNothingToDo("behind the last task", x);
    }

    private static void isNothingToDo(String name, TaskWeaver x) {
        for (int task : new int[] {0, 16, -1, 28, Edges.MIN, Edges.MAX}) {
            due.is(name + ": told(" + task + ", 0)", x.told(task, 0), 1);
        }
        due.is(name + ": left()", x.left(), 0);
    }

    /** "2 it is not the first task of the row": one that stands behind it, one that is none, and no code at all. */
    private static void notTheFirstTask() {
        TaskWeaver x = Domains.small();
        x.check();
        for (int task : new int[] {0, 1, 17, 2, 18, 15, -1, 28, 32, Edges.MIN, Edges.MAX}) {
            due.is("told(" + task + ", 2)", x.told(task, 2), 2);
        }
        due.is("nothing was taken", x.left(), 2);
        due.is("the first task", x.told(16, 2), 0);
    }

    /** Aims 16 and five times 0; 16 has itself four times and 0 as parts, or nothing if a fact is there. */
    private static void endless(TaskWeaver x) {
        x.compound();
        x.primitive(1, 0, 0, 0, 0);
        Domains.method(x, 16, 16, 16, 16, 16, 0);
        Domains.methodIf(x, 16, 1, 0);
        Domains.aims(x, 16, 0, 0, 0, 0, 0);
    }

    private static TaskWeaver endless() {
        TaskWeaver x = new TaskWeaver();
        endless(x);
        return x;
    }

    /** "3 48 were taken": the 48th is right, the 49th is not. */
    private static void fortyEightWereTaken() {
        TaskWeaver x = endless();
        x.check();
        for (int i = 1; i <= 48; i++) {
            due.is("told number " + i, x.told(16, 0), 0);
        }
        due.is("told number 49", x.told(16, 0), 3);
        due.is("told number 49 again", x.told(16, 0), 3);
        due.is("nothing more is taken", x.left(), 6 + 4 * 48);
        due.is("check() again", x.check(), 6);
        due.is("and it is right again", x.told(16, 0), 0);
    }

    /** "without being taken": what is refused is none of the 48. */
    private static void refusedOnesAreNotTaken() {
        TaskWeaver x = endless();
        x.check();
        for (int i = 0; i < 60; i++) {
            due.is("refused: told(0, 0)", x.told(0, 0), 2);
            due.is("refused: told(16, 2)", x.told(16, 2), 5);
            due.is("refused: told(16, 1)", x.told(16, 1), 6);
        }
        for (int i = 1; i <= 48; i++) {
            due.is("behind refused ones: told number " + i, x.told(16, 0), 0);
        }
        due.is("behind refused ones: told number 49", x.told(16, 0), 3);
        due.is("behind refused ones: left()", x.left(), 6 + 4 * 48);
    }

    /** "4 a primitive one's condition does not hold": a need that is missing, a lack that is there. */
    private static void aPrimitiveConditionDoesNotHold() {
        TaskWeaver x = new TaskWeaver();
        x.primitive(3, 0, 0, 0, 0);
        x.primitive(0, 3, 0, 0, 0);
        x.start(1);
        x.aim(0);
        x.check();
        due.is("one bit of the need is missing", x.told(0, 0), 4);
        due.is("it is not taken", x.left(), 1);
        x.forget();
        x.aim(1);
        x.check();
        due.is("one bit of the lack is there", x.told(1, 0), 4);
        due.is("it is not taken either", x.left(), 1);
        x.start(0);
        x.check();
        due.is("the lack holds", x.told(1, 0), 0);
    }

    /** "5 a compound one has no such method": no number of one, one of another task, and a task without any. */
    private static void noSuchMethod() {
        TaskWeaver x = Domains.compounds(3);
        Domains.method(x, 16);
        Domains.method(x, 17);
        Domains.method(x, 17);
        Domains.aims(x, 17, 18);
        x.check();
        for (int method : new int[] {0, 3, 4, 39, 40, -1, Edges.MIN, Edges.MAX}) {
            due.is("told(17, " + method + ")", x.told(17, method), 5);
        }
        due.is("it is not taken", x.left(), 2);
        due.is("its last method", x.told(17, 2), 0);
        for (int method : new int[] {0, 1, 2, 3, -1, Edges.MIN, Edges.MAX}) {
            due.is("told(18, " + method + ")", x.told(18, method), 5);
        }
        due.is("it is not taken either", x.left(), 1);
    }

    /** "6 that one's condition does not hold", in the facts that are there then. */
    private static void aMethodsConditionDoesNotHold() {
        TaskWeaver x = Domains.compounds(1);
        x.primitive(0, 2, 2, 1, 0);
        Domains.methodIf(x, 16, 2, 0);
        Domains.methodIf(x, 16, 0, 2);
        x.start(1);
        Domains.aims(x, 16, 0, 16, 0);
        x.check();
        due.is("the need is not yet there", x.told(16, 0), 6);
        due.is("it is not taken", x.left(), 4);
        due.is("the lack holds yet", x.told(16, 1), 0);
        due.is("does it", x.told(0, 0), 0);
        due.is("the lack holds no longer", x.told(16, 1), 6);
        due.is("it is not taken either", x.left(), 2);
        due.is("the need is there now", x.told(16, 0), 0);
        due.is("cannot be done twice", x.told(0, 0), 4);
        due.is("one is left", x.left(), 1);
    }

    /** "the first of these that is so": 1 when 48 were taken, too. */
    private static void nothingToDoGoesBeforeFortyEight() {
        TaskWeaver x = Domains.wide(0, 0, 0, 0);
        x.plan(5000);
        x.check();
        for (int k = 0; k < 48; k++) {
            due.is("told node " + k, x.told(x.node(k, 0), x.node(k, 2)), 0);
        }
        due.is("1 before 3", x.told(0, 0), 1);
        due.is("1 before 3, and before 2", x.told(-1, 0), 1);
    }

    /** "the first of these that is so": 2 whatever else is wrong with what is told. */
    private static void notTheFirstGoesBeforeTheOthers() {
        TaskWeaver x = endless();
        x.check();
        due.is("2 before 4", x.told(0, 0), 2);
        for (int i = 0; i < 48; i++) {
            x.told(16, 0);
        }
        due.is("2 before 3", x.told(0, 0), 2);
        due.is("2 before 3, no task", x.told(-1, 0), 2);
        TaskWeaver y = Domains.small();
        y.check();
        due.is("2 before 5", y.told(17, 99), 2);
        y.start(1);
        y.check();
        due.is("2 before 6", y.told(17, 4), 2);
    }

    /** "the first of these that is so": 3 also if a condition does not hold, or there is no such method. */
    private static void fortyEightGoesBeforeConditions() {
        TaskWeaver x = endless();
        x.check();
        for (int i = 0; i < 48; i++) {
            x.told(16, 0);
        }
        due.is("3 before 5", x.told(16, 2), 3);
        due.is("3 before 5, the smallest int", x.told(16, Edges.MIN), 3);
        due.is("3 before 6", x.told(16, 1), 3);
        TaskWeaver y = Domains.wide(0, 0, 0, 0);
        y.primitive(1, 0, 0, 0, 0);
        y.plan(5000);
        int[][] nodes = new int[48][2];
        for (int k = 0; k < 48; k++) {
            nodes[k][0] = y.node(k, 0);
            nodes[k][1] = y.node(k, 2);
        }
        y.aim(1);
        y.check();
        for (int[] node : nodes) {
            y.told(node[0], node[1]);
        }
        due.is("one is left", y.left(), 1);
        due.is("3 before 4", y.told(1, 0), 3);
    }

    /** "the first of these that is so": 5 for a method of another task that does not hold. */
    private static void noSuchMethodGoesBeforeItsCondition() {
        TaskWeaver x = Domains.compounds(2);
        Domains.methodIf(x, 16, 1, 0);
        Domains.methodIf(x, 17, 1, 0);
        x.aim(16);
        x.check();
        due.is("5 before 6", x.told(16, 1), 5);
        due.is("6 alone", x.told(16, 0), 6);
    }

    /** "otherwise, without being taken": row, facts and count are as they were, and so are search and domain. */
    private static void whatIsRefusedChangesNothing() {
        twins.unchanged("1", x -> {
            halfWay(x);
            x.told(0, 0);
            x.told(0, 0);
        }, x -> x.told(0, 0));
        twins.unchanged("2", ToldTest::halfWay, x -> {
            x.told(16, 2);
            x.told(-1, 0);
            x.told(Edges.MIN, Edges.MAX);
        });
        twins.unchanged("3", x -> {
            endless(x);
            x.check();
            for (int i = 0; i < 48; i++) {
                x.told(16, 0);
            }
        }, x -> x.told(16, 0));
        twins.unchanged("4", x -> {
            Domains.small(x);
            x.check();
            x.told(16, 1);
            x.told(0, 0);
        }, x -> x.told(1, 0));
        twins.unchanged("5", ToldTest::begun, x -> {
            x.told(16, 4);
            x.told(16, 5);
            x.told(16, -1);
        });
        twins.unchanged("6", ToldTest::begun, x -> x.told(16, 0));
    }

    private static void begun(TaskWeaver x) {
        Domains.small(x);
        x.plan(3);
        x.check();
    }

    private static void halfWay(TaskWeaver x) {
        begun(x);
        x.told(16, 2);
    }

    /** The facts that there are stay, too: the last task can be done in them alone. */
    private static void whatIsRefusedLeavesTheFacts() {
        TaskWeaver x = Domains.compounds(1);
        x.primitive(0, 0, 4, 0, 0);
        x.primitive(5, Edges.ALL_BITS - 5, 0, 0, 0);
        x.primitive(8, 0, 2, 1, 0);
        Domains.methodIf(x, 16, 8, 0);
        Domains.methodIf(x, 16, 5, 0);
        x.start(1);
        Domains.aims(x, 0, 16, 1, 2, 1);
        x.check();
        due.is("facts: 0 is done", x.told(0, 0), 0);
        due.is("facts: 2", x.told(2, 0), 2);
        due.is("facts: 5", x.told(16, 9), 5);
        due.is("facts: 6", x.told(16, 0), 6);
        due.is("facts: 16 is right", x.told(16, 1), 0);
        due.is("facts: they are as they were", x.told(1, 0), 0);
        due.is("facts: 4", x.told(2, 0), 4);
        due.is("facts: 4 again", x.told(2, 0), 4);
        due.is("facts: 2 again", x.told(1, 0), 2);
    }

    private static void notBegunChangesNothing() {
        twins.unchanged("not begun", x -> {
            Domains.small(x);
            x.plan(3);
        }, x -> {
            x.told(16, 2);
            x.told(-1, -1);
        });
    }

    /** "in the order in which a search makes them": what the search found is right for the checker. */
    private static void aFoundTreeIsRight() {
        TaskWeaver x = Domains.small();
        for (int answer = x.plan(5000); answer == TaskWeaver.FOUND; answer = x.another(5000)) {
            int count = x.found(3);
            x.check();
            for (int k = 0; k < count; k++) {
                due.is("found: told node " + k, x.told(x.node(k, 0), x.node(k, 2)), 0);
            }
            due.is("found: left()", x.left(), 0);
        }
        due.is("both plans were told", x.steps(), 12);
    }

    private static void leavesTheSearchAlone() {
        TaskWeaver x = Domains.small();
        x.plan(4);
        x.check();
        x.told(16, 2);
        x.told(0, 0);
        x.told(0, 0);
        due.is("the steps stay", x.steps(), 4);
        due.is("the tree stays", x.node(0, 2), 1);
        due.is("the search goes on", x.plan(4), TaskWeaver.FOUND);
        due.is("the checker stays", x.left(), 0);
    }
}
