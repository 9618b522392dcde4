import java.util.Arrays;
import java.util.Random;

/** Long runs of calls on new objects, the same ones each time; every answer is compared with that of the model. */
public final class ModelTest {
    private static final int RUNS = 6000;
    private static final int CALLS = 512;
    private static final int[] EDGES = {
        -1, 0, 1, 5, 6, 11, 12, 15, 16, 27, 28, 39, 40, 47, 48, 100, 101, 5000, 5001, 65535, 65536,
        Integer.MIN_VALUE, Integer.MAX_VALUE
    };

    private final Due due = new Due();
    private final int[] seenPlans = new int[5];
    private final int[] seenTold = new int[8];
    private int seenAnother;
    private int seenFullTrees;

    private Random random;
    private TaskWeaver x;
    private Model y;
    private int calls;
    private int run;
    private int primitives;
    private int compounds;
    private int methods;
    private int factBits;
    private boolean mayCycle;
    private boolean isCalm;

    public static void main(String[] args) {
        ModelTest test = new ModelTest();
        for (int i = 0; i < RUNS && test.due.isAllRight(); i++) {
            test.oneRun(i);
        }
        test.everyAnswerWasSeen();
        test.due.end();
    }

    private void oneRun(int number) {
        run = number;
        random = new Random(number);
        x = new TaskWeaver();
        y = new Model();
        calls = 0;
        primitives = 0;
        compounds = 0;
        methods = 0;
        factBits = random.nextInt(5);
        mayCycle = random.nextInt(6) == 0;
        isCalm = random.nextInt(3) == 0;
        build();
        // Some turns make two calls, and behind the last one that the document allows all answers are free.
        while (calls + 2 <= CALLS && due.isAllRight()) {
            int choice = random.nextInt(isCalm ? 90 : 100);
            if (choice < 40) {
                searchCall();
            } else if (choice < 60) {
                lookCall();
            } else if (choice < 90) {
                checkCall();
            } else if (choice < 96) {
                refusedCall();
            } else {
                change(random.nextInt(7));
            }
        }
    }

    private void same(String call, long got, long want) {
        calls++;
        due.is("run " + run + ", call " + calls + ": " + call, got, want);
    }

    private int bits() {
        return random.nextInt(1 << factBits) & random.nextInt(1 << factBits);
    }

    private int someTask() {
        boolean takePrimitive = compounds == 0 || primitives > 0 && random.nextInt(3) == 0;
        return takePrimitive ? random.nextInt(primitives + 1) : 16 + random.nextInt(compounds);
    }

    private int edge() {
        return EDGES[random.nextInt(EDGES.length)];
    }

    private void build() {
        int wantedCompounds = random.nextInt(13);
        for (int i = random.nextInt(13); i > 0; i--) {
            change(0);
        }
        for (int i = wantedCompounds; i > 0; i--) {
            change(1);
        }
        for (int i = random.nextInt(42); i > 0; i--) {
            change(2);
        }
        for (int i = random.nextInt(120); i > 0; i--) {
            change(3);
        }
        change(4);
        for (int i = 1 + random.nextInt(7); i > 0; i--) {
            change(5);
        }
    }

    private void change(int kind) {
        switch (kind) {
            case 0:
                addPrimitive();
                break;
            case 1:
                same("compound()", x.compound(), y.compound());
                compounds = Math.min(12, compounds + 1);
                break;
            case 2:
                addMethod();
                break;
            case 3:
                addPart();
                break;
            case 4:
                int facts = random.nextInt(1 << factBits);
                same("start(" + facts + ")", x.start(facts) ? 1 : 0, y.start(facts) ? 1 : 0);
                break;
            case 5:
                int task = someTask();
                same("aim(" + task + ")", x.aim(task), y.aim(task));
                break;
            default:
                same("forget()", x.forget(), y.forget());
        }
    }

    private void addPrimitive() {
        int need = bits();
        int lack = bits() & ~need;
        int add = bits();
        int drop = bits();
        int cost = random.nextInt(101);
        String call = "primitive(" + need + ", " + lack + ", " + add + ", " + drop + ", " + cost + ")";
        same(call, x.primitive(need, lack, add, drop, cost), y.primitive(need, lack, add, drop, cost));
        primitives = Math.min(12, primitives + 1);
    }

    private void addMethod() {
        int task = 16 + random.nextInt(compounds + 1);
        int need = bits();
        int lack = bits() & ~need;
        int number = y.method(task, need, lack);
        same("method(" + task + ", " + need + ", " + lack + ")", x.method(task, need, lack), number);
        methods = Math.max(methods, number + 1);
    }

    /** Most runs give a method only parts of a higher code than its own task, for otherwise nearly all are cyclic. */
    private void addPart() {
        int method = random.nextInt(methods + 1);
        int task = someTask();
        for (int code = 16; code < 16 + compounds && !mayCycle; code++) {
            for (int i = 0; i < 5; i++) {
                if (y.someMethodOf(code, i) == method && task >= 16 && task <= code) {
                    task = code == 15 + compounds ? random.nextInt(primitives + 1) : code + 1;
                }
            }
        }
        same("part(" + method + ", " + task + ")", x.part(method, task), y.part(method, task));
    }

    private void searchCall() {
        int fuel = random.nextInt(3) == 0 ? random.nextInt(5001) : random.nextInt(12);
        if (random.nextInt(2) == 0) {
            int answer = y.plan(fuel);
            same("plan(" + fuel + ")", x.plan(fuel), answer);
            seenPlans[answer + 1]++;
        } else {
            int answer = y.another(fuel);
            same("another(" + fuel + ")", x.another(fuel), answer);
            seenAnother += answer == Model.FOUND ? 1 : 0;
        }
        same("steps()", x.steps(), y.steps());
        seenFullTrees += y.node(47, 0) == Model.NONE ? 0 : 1;
    }

    private void lookCall() {
        int k = random.nextInt(10) == 0 ? edge() : random.nextInt(random.nextInt(2) == 0 ? 6 : 50);
        int what = random.nextInt(10) == 0 ? edge() : random.nextInt(4);
        switch (random.nextInt(5)) {
            case 0:
                same("task(" + k + ")", x.task(k), y.task(k));
                break;
            case 1:
                same("found(" + what + ")", x.found(what), y.found(what));
                break;
            case 2:
                same("cycle(" + k + ")", x.cycle(k), y.cycle(k));
                break;
            default:
                same("node(" + k + ", " + what + ")", x.node(k, what), y.node(k, what));
        }
    }

    private void checkCall() {
        int choice = random.nextInt(isCalm ? 200 : 20);
        if (choice == 0 || y.left() == Model.NONE && choice < 10) {
            same("check()", x.check(), y.check());
        } else if (choice < 3) {
            same("left()", x.left(), y.left());
        } else {
            int task = choice == 3 ? someTask() : choice == 4 ? edge() : y.nextToTell();
            int method = choice == 5 ? edge() : y.someMethodOf(task, random.nextInt(5));
            if (choice == 6) {
                method = random.nextInt(41);
            }
            int answer = y.told(task, method);
            same("told(" + task + ", " + method + ")", x.told(task, method), answer);
            seenTold[answer + 1]++;
        }
    }

    /** Calls with arguments at the edges, most of which are refused. */
    private void refusedCall() {
        int one = edge();
        int two = edge();
        switch (random.nextInt(7)) {
            case 0:
                same("primitive at the edges", x.primitive(0, one, 0, 0, two), y.primitive(0, one, 0, 0, two));
                break;
            case 1:
                same("method(" + one + ", 0, " + two + ")", x.method(one, 0, two), y.method(one, 0, two));
                break;
            case 2:
                same("part(" + one + ", " + two + ")", x.part(one, two), y.part(one, two));
                break;
            case 3:
                same("start(" + one + ")", x.start(one) ? 1 : 0, y.start(one) ? 1 : 0);
                break;
            case 4:
                same("aim(" + one + ")", x.aim(one), y.aim(one));
                break;
            case 5:
                same("plan(" + one + ")", x.plan(one), y.plan(one));
                break;
            default:
                same("another(" + one + ")", x.another(one), y.another(one));
        }
    }

    /** A driver that never comes to some answer would let a fault there through. */
    private void everyAnswerWasSeen() {
        for (int i = 1; i < seenPlans.length; i++) {
            due.is("plan answered " + (i - 1) + " in some run", seenPlans[i] > 0, true);
        }
        for (int i = 0; i < seenTold.length; i++) {
            due.is("told answered " + (i - 1) + " in some run", seenTold[i] > 0, true);
        }
        due.is("another plan was found in some run", seenAnother > 0, true);
        due.is("a tree was full in some run", seenFullTrees > 0, true);
        System.out.println("seen: plans " + Arrays.toString(seenPlans) + ", told " + Arrays.toString(seenTold)
            + ", another " + seenAnother + ", full trees " + seenFullTrees);
    }
}
