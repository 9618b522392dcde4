import java.util.ArrayList;
import java.util.List;

/**
 * All plans of a domain in their order, listed by calls that call themselves: what has failed is gone back from by
 * returning, so that nothing of the search's own book-keeping is used.
 */
final class PlainPlans {
    private static final int MAX_NODES = 48;

    static final class Plan {
        List<int[]> nodes = new ArrayList<>();
        int facts;
        int steps;
    }

    private static final class ToDo {
        final int task;
        final int parent;
        final ToDo next;

        ToDo(int task, int parent, ToDo next) {
            this.task = task;
            this.parent = parent;
            this.next = next;
        }
    }

    final List<Plan> plans = new ArrayList<>();
    int steps;
    int fullTrees;

    private final PlainDomain domain;
    private final int maxPlans;
    private final int maxSteps;
    private final List<int[]> nodes = new ArrayList<>();

    PlainPlans(PlainDomain domain, int maxPlans, int maxSteps) {
        this.domain = domain;
        this.maxPlans = maxPlans;
        this.maxSteps = maxSteps;
        goOn(before(domain.aims, TaskWeaver.NONE, null), domain.start);
    }

    /** Whether the list was broken off: then more plans may come, and the steps are not all. */
    boolean isCut() {
        return plans.size() >= maxPlans || steps >= maxSteps;
    }

    private static ToDo before(int[] tasks, int parent, ToDo others) {
        ToDo row = others;
        for (int i = tasks.length - 1; i >= 0; i--) {
            row = new ToDo(tasks[i], parent, row);
        }
        return row;
    }

    private void goOn(ToDo row, int facts) {
        if (isCut()) {
            return;
        }
        if (row == null) {
            keepPlan(facts);
            return;
        }
        steps++;
        if (nodes.size() == MAX_NODES) {
            fullTrees++;
            return;
        }
        int[] node = {row.task, row.parent, TaskWeaver.NONE};
        nodes.add(node);
        if (!PlainDomain.isPrimitive(row.task)) {
            goOnByEveryWay(node, row.next, facts);
        } else if (domain.canDo(row.task, facts)) {
            goOn(row.next, domain.factsAfter(row.task, facts));
        }
        nodes.remove(nodes.size() - 1);
    }

    private void goOnByEveryWay(int[] node, ToDo others, int facts) {
        int place = nodes.size() - 1;
        for (PlainDomain.Way way : domain.ways[node[0] - 16]) {
            if (!isCut()) {
                steps++;
                node[2] = way.number;
                if (way.holds(facts)) {
                    goOn(before(way.parts, place, others), facts);
                }
            }
        }
    }

    private void keepPlan(int facts) {
        Plan plan = new Plan();
        for (int[] node : nodes) {
            plan.nodes.add(node.clone());
        }
        plan.facts = facts;
        plan.steps = steps;
        plans.add(plan);
    }
}
