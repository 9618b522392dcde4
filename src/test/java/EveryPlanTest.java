import java.util.List;

/**
 * "every plan can be had one after the other, and trees from elsewhere are checked": the plans of many domains, listed
 * without a search, are those that plan() and another() find, and their trees are right for the checker.
 */
public final class EveryPlanTest {
    private static final int DOMAINS = 3000;
    private static final int MAX_PLANS = 12;
    private static final int MAX_STEPS = 40000;

    private static final Due due = new Due();
    private static int plansSeen;
    private static int endsSeen;
    private static int fullTreesSeen;

    public static void main(String[] args) {
        for (int seed = 0; seed < DOMAINS && due.isAllRight(); seed++) {
            oneDomain(seed);
        }
        due.is("some domains have plans", plansSeen > DOMAINS, true);
        due.is("some searches come to their end", endsSeen > DOMAINS / 4, true);
        due.is("some trees are full", fullTreesSeen > 0, true);
        System.out.println("seen: plans " + plansSeen + ", ends " + endsSeen + ", full trees " + fullTreesSeen);
        due.end();
    }

    private static void oneDomain(int seed) {
        PlainDomain domain = new PlainDomain(seed);
        domain.tell(new TaskWeaver());
        PlainPlans listed = new PlainPlans(domain, MAX_PLANS, MAX_STEPS);
        String name = "domain " + seed;
        for (int i = 0; i < listed.plans.size(); i++) {
            TaskWeaver x = new TaskWeaver();
            domain.tell(x);
            due.is(name + ": there is a plan " + i, planAt(x, i), TaskWeaver.FOUND);
            isPlan(name + ", plan " + i, x, domain, listed.plans.get(i));
            isRight(name + ", plan " + i, x, domain, listed.plans.get(i));
        }
        if (!listed.isCut()) {
            TaskWeaver x = new TaskWeaver();
            domain.tell(x);
            due.is(name + ": no plan more", planAt(x, listed.plans.size()), TaskWeaver.END);
            due.is(name + ": steps() at the end", x.steps(), listed.steps);
            due.is(name + ": the tree at the end", x.node(0, 0), TaskWeaver.NONE);
            endsSeen++;
        }
        plansSeen += listed.plans.size();
        fullTreesSeen += listed.fullTrees;
    }

    /** What is answered when the search has come to its plan of this number, or to its end. */
    private static int planAt(TaskWeaver x, int number) {
        int answer = withEnoughFuel(x, x.plan(5000));
        for (int i = 0; i < number; i++) {
            due.is("another plan behind one", answer, TaskWeaver.FOUND);
            answer = withEnoughFuel(x, x.another(5000));
        }
        return answer;
    }

    private static int withEnoughFuel(TaskWeaver x, int first) {
        int answer = first;
        for (int fuel = 5000; answer == TaskWeaver.MORE && fuel <= MAX_STEPS; fuel += 5000) {
            answer = x.plan(5000);
        }
        return answer;
    }

    private static void isPlan(String name, TaskWeaver x, PlainDomain domain, PlainPlans.Plan plan) {
        int length = 0;
        int cost = 0;
        List<int[]> nodes = plan.nodes;
        for (int k = 0; k < nodes.size(); k++) {
            int task = nodes.get(k)[0];
            due.is(name + ": task of node " + k, x.node(k, 0), task);
            due.is(name + ": parent of node " + k, x.node(k, 1), nodes.get(k)[1]);
            due.is(name + ": method of node " + k, x.node(k, 2), nodes.get(k)[2]);
            if (PlainDomain.isPrimitive(task)) {
                due.is(name + ": task(" + length + ")", x.task(length), task);
                length++;
                cost += domain.primitives[task][4];
            }
        }
        due.is(name + ": no node more", x.node(nodes.size(), 0), TaskWeaver.NONE);
        due.is(name + ": no task more", x.task(length), TaskWeaver.NONE);
        due.is(name + ": found(0)", x.found(0), length);
        due.is(name + ": found(1)", x.found(1), cost);
        due.is(name + ": found(2)", x.found(2), plan.facts);
        due.is(name + ": found(3)", x.found(3), nodes.size());
        due.is(name + ": steps()", x.steps(), plan.steps);
    }

    private static void isRight(String name, TaskWeaver x, PlainDomain domain, PlainPlans.Plan plan) {
        due.is(name + ": check()", x.check(), domain.aims.length);
        for (int[] node : plan.nodes) {
            due.is(name + ": told(" + node[0] + ", " + node[2] + ")", x.told(node[0], node[2]), 0);
        }
        due.is(name + ": left() behind it all", x.left(), 0);
        due.is(name + ": told() behind it all", x.told(domain.aims[0], 0), 1);
    }
}
