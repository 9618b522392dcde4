import java.util.Random;

/** Promise 9: cycle, with the term of the cycle. */
public final class CycleTest {
    private static final Due due = new Due();

    public static void main(String[] args) {
        noCycle();
        metAgainButNotWhileItIsGoingOn();
        ownPart();
        theOnlyTaskAndTheLastTask();
        firstMetByRisingCodes();
        orderOfVisits();
        partsInTheirOrder();
        methodsInTheirOrder();
        visitedOnesAreNotVisitedAgain();
        primitivePartsDoNotCount();
        theLastPartOfTheLastMethod();
        conditionsAndAimsDoNotCount();
        theLongestOne();
        theFirstCycleIsNamedWhenThereAreTwo();
        anotherOneBehindAChange();
        askingChangesNothing();
        thereIsOneWhenATaskLeadsToItself();
        due.end();
    }

    private static void link(TaskWeaver x, int from, int... to) {
        Domains.method(x, from, to);
    }

    /** "The k-th task of the cycle, from 0; NONE when there is none such, or no cycle." */
    private static void isCycle(String name, TaskWeaver x, int... tasks) {
        for (int k = 0; k < tasks.length; k++) {
            due.is(name + ": cycle(" + k + ")", x.cycle(k), tasks[k]);
        }
        int length = tasks.length;
        for (int k : new int[] {length, length + 1, 11 + length, 12, -1, -length, Edges.MIN, Edges.MAX}) {
            due.is(name + ": cycle(" + k + ")", x.cycle(k), TaskWeaver.NONE);
        }
        boolean isCyclic = length > 0;
        due.is(name + ": plan(0) is CYCLIC", x.plan(0) == TaskWeaver.CYCLIC, isCyclic);
    }

    private static void noCycle() {
        isCycle("new object", new TaskWeaver());
        isCycle("tasks without methods", Domains.compounds(12));
        TaskWeaver x = Domains.compounds(12);
        for (int i = 0; i < 11; i++) {
            link(x, 16 + i, 17 + i);
        }
        isCycle("a chain of all", x);
    }

    private static void metAgainButNotWhileItIsGoingOn() {
        TaskWeaver x = Domains.compounds(4);
        Domains.idlePrimitives(x, 1);
        link(x, 16, 17, 18, 17, 0);
        link(x, 17, 19);
        link(x, 18, 19, 0, 19);
        link(x, 16, 19);
        isCycle("met again", x);
    }

    private static void ownPart() {
        TaskWeaver x = Domains.compounds(3);
        link(x, 17, 17);
        isCycle("its own part", x, 17);
    }

    private static void theOnlyTaskAndTheLastTask() {
        TaskWeaver x = Domains.compounds(1);
        link(x, 16, 16);
        isCycle("the only task", x, 16);
        x = Domains.compounds(12);
        link(x, 27, 27);
        isCycle("the last task", x, 27);
    }

    /** "compound tasks are VISITED by rising codes" */
    private static void firstMetByRisingCodes() {
        TaskWeaver x = Domains.compounds(5);
        link(x, 19, 20);
        link(x, 20, 19);
        link(x, 18, 17);
        link(x, 17, 18);
        isCycle("the one with the lower code", x, 17, 18);
    }

    /** "it, and those whose visits began behind it and are going on, in this order": not those before it. */
    private static void orderOfVisits() {
        TaskWeaver x = Domains.compounds(5);
        link(x, 16, 20);
        link(x, 20, 18);
        link(x, 18, 19);
        link(x, 19, 20);
        link(x, 17, 17);
        isCycle("from the one that was met", x, 20, 18, 19);
    }

    /** "and the parts of each": a visit that is over is not in the cycle. */
    private static void partsInTheirOrder() {
        TaskWeaver x = Domains.compounds(3);
        link(x, 16, 18, 17, 16);
        link(x, 17, 16);
        link(x, 18);
        isCycle("the first part that leads back", x, 16, 17);
    }

    /** "goes through its methods in their order", not in the order in which their parts came. */
    private static void methodsInTheirOrder() {
        TaskWeaver x = Domains.compounds(3);
        int first = x.method(16, 0, 0);
        int second = x.method(16, 0, 0);
        x.part(second, 16);
        isCycle("the second method", x, 16);
        x.part(first, 17);
        link(x, 17, 18);
        link(x, 18, 16);
        isCycle("the first method goes before", x, 16, 17, 18);
    }

    /** "if they were not yet", "one not visited yet is visited there and then" */
    private static void visitedOnesAreNotVisitedAgain() {
        TaskWeaver x = Domains.compounds(4);
        link(x, 16, 17);
        link(x, 18, 17, 19);
        link(x, 19, 17, 18);
        isCycle("past one whose visit is over", x, 18, 19);
        isCycle("so many ways that only once visited ones come to an end", manyWays());
    }

    private static TaskWeaver manyWays() {
        TaskWeaver x = Domains.compounds(12);
        for (int next = 17; next < 28; next++) {
            for (int i = 0; i < 3; i++) {
                link(x, next - 1, next, next, next, next, next);
            }
        }
        return x;
    }

    /** "those that are compound": a primitive task with the place of a compound one is none. */
    private static void primitivePartsDoNotCount() {
        TaskWeaver x = Domains.compounds(2);
        Domains.idlePrimitives(x, 12);
        link(x, 16, 0, 1, 11);
        link(x, 17, 1, 0, 16);
        isCycle("primitive parts", x);
    }

    private static void theLastPartOfTheLastMethod() {
        TaskWeaver x = Domains.compounds(8);
        for (int i = 0; i < 39; i++) {
            link(x, 16 + i / 5);
        }
        link(x, 23, 16, 16, 16, 16, 23);
        isCycle("the fifth part of the fifth method", x, 23);
    }

    /** A cycle is one also if no method of it ever holds, and if no aim leads to it. */
    private static void conditionsAndAimsDoNotCount() {
        TaskWeaver x = Domains.compounds(3);
        Domains.idlePrimitives(x, 1);
        Domains.methodIf(x, 17, 1, 1, 18);
        Domains.methodIf(x, 18, 1, 1, 17);
        x.aim(0);
        isCycle("methods that never hold", x, 17, 18);
        x.forget();
        isCycle("without aims", x, 17, 18);
    }

    private static void theLongestOne() {
        TaskWeaver x = Domains.compounds(12);
        for (int i = 0; i < 12; i++) {
            link(x, 16 + i, 16 + (i + 5) % 12);
        }
        isCycle("a cycle of all", x, 16, 21, 26, 19, 24, 17, 22, 27, 20, 25, 18, 23);
    }

    /** "the first one that is met while its visit is still going on makes the cycle" */
    private static void theFirstCycleIsNamedWhenThereAreTwo() {
        TaskWeaver x = Domains.compounds(4);
        link(x, 16, 17, 16);
        link(x, 17, 18, 16);
        link(x, 18, 19);
        link(x, 19, 18, 17);
        isCycle("the innermost one is met first", x, 18, 19);
    }

    /** Cycles never go away, but another one can be the first one that is met behind a change. */
    private static void anotherOneBehindAChange() {
        TaskWeaver x = Domains.compounds(3);
        int first = x.method(16, 0, 0);
        int second = x.method(16, 0, 0);
        x.part(second, 17);
        isCycle("no cycle yet", x);
        link(x, 17, 18);
        link(x, 18, 18);
        isCycle("at the end of the way", x, 18);
        x.part(2, 17);
        isCycle("the end of the way is still met first", x, 18);
        link(x, 17, 17);
        isCycle("and again", x, 18);
        x.part(first, 16);
        isCycle("at its beginning", x, 16);
    }

    private static void askingChangesNothing() {
        new Twins(due).unchangedInAllSituations("cycle", Domains::full, x -> {
            for (int k : new int[] {0, 11, 12, -1, Edges.MIN, Edges.MAX}) {
                x.cycle(k);
            }
        });
        new Twins(due).unchanged("cycle of a cyclic domain", x -> {
            Domains.full(x);
            x.part(0, 16);
            x.check();
            x.told(16, 2);
        }, x -> {
            x.cycle(0);
            x.cycle(1);
        });
    }

    /** Many small domains: whether there is a cycle is seen here by joining links, without any visit. */
    private static void thereIsOneWhenATaskLeadsToItself() {
        int cyclic = 0;
        for (int seed = 0; seed < 2000; seed++) {
            Random random = new Random(seed);
            int count = 1 + random.nextInt(12);
            TaskWeaver x = Domains.compounds(count);
            boolean[][] isPart = new boolean[count][count];
            for (int i = random.nextInt(2 * count); i > 0; i--) {
                int from = random.nextInt(count);
                int to = random.nextInt(count);
                isPart[from][to] |= x.part(x.method(16 + from, 0, 0), 16 + to) == 1;
            }
            boolean isCyclic = someLeadsToItself(isPart);
            due.is("domain " + seed + ": there is a cycle", x.cycle(0) != TaskWeaver.NONE, isCyclic);
            due.is("domain " + seed + ": plan(0) is CYCLIC", x.plan(0) == TaskWeaver.CYCLIC, isCyclic);
            if (isCyclic) {
                isRing("domain " + seed, x, isPart);
                cyclic++;
            }
        }
        due.is("some domains have cycles, others none", cyclic > 500 && cyclic < 1500, true);
    }

    private static boolean someLeadsToItself(boolean[][] isPart) {
        int count = isPart.length;
        boolean[][] leads = new boolean[count][];
        for (int i = 0; i < count; i++) {
            leads[i] = isPart[i].clone();
        }
        for (int by = 0; by < count; by++) {
            for (int from = 0; from < count; from++) {
                for (int to = 0; to < count; to++) {
                    leads[from][to] |= leads[from][by] && leads[by][to];
                }
            }
        }
        boolean some = false;
        for (int i = 0; i < count; i++) {
            some |= leads[i][i];
        }
        return some;
    }

    /** Each task of the cycle is a part of the one before it, and the first one of the last one. */
    private static void isRing(String name, TaskWeaver x, boolean[][] isPart) {
        int length = 0;
        while (length < isPart.length && x.cycle(length) != TaskWeaver.NONE) {
            length++;
        }
        due.is(name + ": the cycle ends", x.cycle(length), TaskWeaver.NONE);
        for (int k = 0; k < length; k++) {
            int task = x.cycle(k);
            int next = x.cycle((k + 1) % length);
            due.is(name + ": " + next + " is a part of " + task, isPart[task - 16][next - 16], true);
        }
    }
}
