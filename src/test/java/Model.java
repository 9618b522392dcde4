import java.util.ArrayDeque;
import java.util.ArrayList;
import java.util.Deque;
import java.util.List;

/** The document once more, written as plainly as it can be: whole copies are kept to go back to. */
final class Model {
    static final int NONE = -1;
    static final int FOUND = 0;
    static final int END = 1;
    static final int MORE = 2;
    static final int CYCLIC = 3;

    private static final class Condition {
        int need;
        int lack;

        Condition(int need, int lack) {
            this.need = need;
            this.lack = lack;
        }

        boolean holds(int facts) {
            for (int bit = 0; bit < 16; bit++) {
                boolean has = (facts >> bit & 1) == 1;
                if ((need >> bit & 1) == 1 && !has || (lack >> bit & 1) == 1 && has) {
                    return false;
                }
            }
            return true;
        }
    }

    private static final class Task {
        int code;
        boolean isPrimitive;
        Condition condition;
        int add;
        int drop;
        int cost;
        List<Way> ways = new ArrayList<>();
    }

    private static final class Way {
        int number;
        Task of;
        Condition condition;
        List<Task> parts = new ArrayList<>();
    }

    private static final class Node {
        Task task;
        Node parent;
        int at;
        boolean isOpen;
    }

    private static final class ToDo {
        Task task;
        Node parent;

        ToDo(Task task, Node parent) {
            this.task = task;
            this.parent = parent;
        }
    }

    private static final class Moment {
        Node node;
        List<ToDo> row;
        List<Node> tree;
        int facts;
    }

    private final List<Task> primitives = new ArrayList<>();
    private final List<Task> compounds = new ArrayList<>();
    private final List<Way> ways = new ArrayList<>();
    private final List<Task> aims = new ArrayList<>();
    private int startFacts;

    private boolean isSearching;
    private boolean isFound;
    private boolean isAtEnd;
    private int steps;
    private int facts;
    private List<ToDo> row = new ArrayList<>();
    private List<Node> tree = new ArrayList<>();
    private final Deque<Moment> kept = new ArrayDeque<>();

    private boolean isChecking;
    private int checkedFacts;
    private int taken;
    private final List<Task> checkedRow = new ArrayList<>();

    private static boolean bad(int bits) {
        return bits < 0 || bits > 65535;
    }

    private Task find(int code) {
        for (Task task : primitives) {
            if (task.code == code) {
                return task;
            }
        }
        for (Task task : compounds) {
            if (task.code == code) {
                return task;
            }
        }
        return null;
    }

    private void changed() {
        isSearching = false;
        isFound = false;
        isAtEnd = false;
        steps = 0;
        tree.clear();
        kept.clear();
        isChecking = false;
    }

    int primitive(int need, int lack, int add, int drop, int cost) {
        if (bad(need) || bad(lack) || bad(add) || bad(drop) || cost < 0 || cost > 100 || primitives.size() == 12) {
            return NONE;
        }
        Task task = new Task();
        task.code = primitives.size();
        task.isPrimitive = true;
        task.condition = new Condition(need, lack);
        task.add = add;
        task.drop = drop;
        task.cost = cost;
        primitives.add(task);
        changed();
        return task.code;
    }

    int compound() {
        if (compounds.size() == 12) {
            return NONE;
        }
        Task task = new Task();
        task.code = 16 + compounds.size();
        compounds.add(task);
        changed();
        return task.code;
    }

    int method(int code, int need, int lack) {
        Task task = find(code);
        if (task == null || task.isPrimitive || task.ways.size() == 5 || bad(need) || bad(lack) || ways.size() == 40) {
            return NONE;
        }
        Way way = new Way();
        way.number = ways.size();
        way.of = task;
        way.condition = new Condition(need, lack);
        ways.add(way);
        task.ways.add(way);
        changed();
        return way.number;
    }

    int part(int method, int code) {
        Task task = find(code);
        if (method < 0 || method >= ways.size() || task == null || ways.get(method).parts.size() == 5) {
            return NONE;
        }
        ways.get(method).parts.add(task);
        changed();
        return ways.get(method).parts.size();
    }

    boolean start(int bits) {
        if (bad(bits)) {
            return false;
        }
        startFacts = bits;
        changed();
        return true;
    }

    int aim(int code) {
        Task task = find(code);
        if (task == null || aims.size() == 6) {
            return NONE;
        }
        aims.add(task);
        changed();
        return aims.size();
    }

    int forget() {
        int were = aims.size();
        aims.clear();
        changed();
        return were;
    }

    private List<Task> theCycle() {
        List<Task> over = new ArrayList<>();
        for (Task task : compounds) {
            if (!over.contains(task)) {
                List<Task> cycle = visit(task, new ArrayList<>(), over);
                if (cycle != null) {
                    return cycle;
                }
            }
        }
        return new ArrayList<>();
    }

    private List<Task> visit(Task task, List<Task> before, List<Task> over) {
        List<Task> goingOn = new ArrayList<>(before);
        goingOn.add(task);
        for (Way way : task.ways) {
            for (Task part : way.parts) {
                if (goingOn.contains(part)) {
                    return goingOn.subList(goingOn.indexOf(part), goingOn.size());
                }
                if (!part.isPrimitive && !over.contains(part)) {
                    List<Task> cycle = visit(part, goingOn, over);
                    if (cycle != null) {
                        return cycle;
                    }
                }
            }
        }
        over.add(task);
        return null;
    }

    int cycle(int k) {
        List<Task> cycle = theCycle();
        return k < 0 || k >= cycle.size() ? NONE : cycle.get(k).code;
    }

    int plan(int fuel) {
        if (fuel < 0 || fuel > 5000) {
            return NONE;
        }
        if (!theCycle().isEmpty()) {
            return CYCLIC;
        }
        if (!isSearching) {
            isSearching = true;
            facts = startFacts;
            row = new ArrayList<>();
            for (Task aim : aims) {
                row.add(new ToDo(aim, null));
            }
        }
        return search(fuel);
    }

    int another(int fuel) {
        if (fuel < 0 || fuel > 5000 || !isFound) {
            return NONE;
        }
        isFound = false;
        fail();
        return search(fuel);
    }

    private int search(int fuel) {
        int tank = fuel;
        while (true) {
            if (isAtEnd) {
                return END;
            }
            if (openNode() == null && row.isEmpty()) {
                isFound = true;
                return FOUND;
            }
            if (tank == 0) {
                return MORE;
            }
            tank--;
            step();
        }
    }

    private Node openNode() {
        for (Node node : tree) {
            if (node.isOpen) {
                return node;
            }
        }
        return null;
    }

    private void step() {
        steps++;
        Node open = openNode();
        if (open != null) {
            tryMethod(open);
            return;
        }
        ToDo first = row.remove(0);
        if (tree.size() == 48) {
            fail();
            return;
        }
        Node node = new Node();
        node.task = first.task;
        node.parent = first.parent;
        tree.add(node);
        if (!first.task.isPrimitive) {
            node.isOpen = !first.task.ways.isEmpty();
            if (!node.isOpen) {
                fail();
            }
        } else if (first.task.condition.holds(facts)) {
            facts = (facts - (facts & first.task.drop)) | first.task.add;
        } else {
            fail();
        }
    }

    private void tryMethod(Node node) {
        Way way = node.task.ways.get(node.at);
        if (way.condition.holds(facts)) {
            Moment moment = new Moment();
            moment.node = node;
            moment.row = new ArrayList<>(row);
            moment.tree = new ArrayList<>(tree);
            moment.facts = facts;
            kept.push(moment);
            node.isOpen = false;
            for (int i = 0; i < way.parts.size(); i++) {
                row.add(i, new ToDo(way.parts.get(i), node));
            }
        } else if (node.at + 1 < node.task.ways.size()) {
            node.at++;
        } else {
            fail();
        }
    }

    private void fail() {
        while (!kept.isEmpty()) {
            Moment moment = kept.pop();
            if (moment.node.at + 1 < moment.node.task.ways.size()) {
                row = moment.row;
                tree = moment.tree;
                facts = moment.facts;
                moment.node.isOpen = true;
                moment.node.at++;
                return;
            }
        }
        tree.clear();
        isAtEnd = true;
    }

    int steps() {
        return steps;
    }

    private List<Task> thePlan() {
        List<Task> plan = new ArrayList<>();
        for (Node node : tree) {
            if (node.task.isPrimitive) {
                plan.add(node.task);
            }
        }
        return plan;
    }

    int task(int k) {
        return !isFound || k < 0 || k >= thePlan().size() ? NONE : thePlan().get(k).code;
    }

    int found(int what) {
        if (!isFound || what < 0 || what > 3) {
            return NONE;
        }
        int cost = 0;
        for (Task task : thePlan()) {
            cost += task.cost;
        }
        return new int[] {thePlan().size(), cost, facts, tree.size()}[what];
    }

    int node(int k, int what) {
        if (k < 0 || k >= tree.size() || what < 0 || what > 2) {
            return NONE;
        }
        Node node = tree.get(k);
        int parent = node.parent == null ? NONE : tree.indexOf(node.parent);
        int method = node.task.isPrimitive || node.isOpen ? NONE : node.task.ways.get(node.at).number;
        return new int[] {node.task.code, parent, method}[what];
    }

    int check() {
        isChecking = true;
        checkedFacts = startFacts;
        taken = 0;
        checkedRow.clear();
        checkedRow.addAll(aims);
        return checkedRow.size();
    }

    int told(int code, int method) {
        if (!isChecking) {
            return NONE;
        }
        if (checkedRow.isEmpty()) {
            return 1;
        }
        Task task = checkedRow.get(0);
        if (task.code != code) {
            return 2;
        }
        if (taken == 48) {
            return 3;
        }
        if (task.isPrimitive) {
            if (!task.condition.holds(checkedFacts)) {
                return 4;
            }
            checkedFacts = (checkedFacts - (checkedFacts & task.drop)) | task.add;
            checkedRow.remove(0);
        } else {
            if (method < 0 || method >= ways.size() || ways.get(method).of != task) {
                return 5;
            }
            if (!ways.get(method).condition.holds(checkedFacts)) {
                return 6;
            }
            checkedRow.remove(0);
            checkedRow.addAll(0, ways.get(method).parts);
        }
        taken++;
        return 0;
    }

    int left() {
        return isChecking ? checkedRow.size() : NONE;
    }

    /** The task that the checker waits for, for a driver that wants to tell it something right. */
    int nextToTell() {
        return !isChecking || checkedRow.isEmpty() ? NONE : checkedRow.get(0).code;
    }

    /** A method of a compound task, for the same driver. */
    int someMethodOf(int code, int choice) {
        Task task = find(code);
        return task == null || task.ways.isEmpty() ? NONE : task.ways.get(choice % task.ways.size()).number;
    }
}
