/**
 * Plans by taking tasks apart: compound tasks are replaced by the parts of one of their methods,
 * until only primitive ones are left that can be done one after the other.
 */
public final class TaskWeaver {
    public static final int NONE = -1;
    public static final int FOUND = 0;
    public static final int END = 1;
    public static final int MORE = 2;
    public static final int CYCLIC = 3;

    private static final int ALL_BITS = 65535;
    private static final int MAX_COST = 100;
    private static final int MAX_PRIMITIVES = 12;
    private static final int FIRST_COMPOUND = 16;
    private static final int MAX_COMPOUNDS = 12;
    private static final int MAX_METHODS = 40;
    private static final int MAX_METHODS_OF_ONE = 5;
    private static final int MAX_PARTS = 5;
    private static final int MAX_AIMS = 6;
    private static final int MAX_NODES = 48;
    private static final int MAX_FUEL = 5000;
    // Only nodes add to a row behind the aims, each of them once and no more than the parts of one method.
    private static final int MAX_CELLS = MAX_AIMS + MAX_NODES * MAX_PARTS;

    private final Domain domain;
    private final CycleFinder cycleFinder;
    private final Search search;
    private final Checker checker;

    public TaskWeaver() {
        domain = new Domain();
        cycleFinder = new CycleFinder(domain);
        search = new Search(domain);
        checker = new Checker(domain);
    }

    public int primitive(int need, int lack, int add, int drop, int cost) {
        return afterChange(domain.addPrimitive(need, lack, add, drop, cost));
    }

    public int compound() {
        return afterChange(domain.addCompound());
    }

    public int method(int task, int need, int lack) {
        return afterChange(domain.addMethod(task, need, lack));
    }

    public int part(int method, int task) {
        return afterChange(domain.addPart(method, task));
    }

    public boolean start(int facts) {
        return afterChange(domain.setStart(facts)) != NONE;
    }

    public int aim(int task) {
        return afterChange(domain.addAim(task));
    }

    public int forget() {
        return afterChange(domain.clearAims());
    }

    public int cycle(int k) {
        return cycleFinder.isCyclic() ? cycleFinder.memberAt(k) : NONE;
    }

    public int plan(int fuel) {
        if (!isFuel(fuel)) {
            return NONE;
        }
        if (cycleFinder.isCyclic()) {
            return CYCLIC;
        }
        search.beginIfNone();
        return search.goOn(fuel);
    }

    public int another(int fuel) {
        if (!isFuel(fuel) || !search.hasPlan()) {
            return NONE;
        }
        search.rejectPlan();
        return search.goOn(fuel);
    }

    public int steps() {
        return search.stepCount();
    }

    public int task(int k) {
        return search.hasPlan() ? search.planTask(k) : NONE;
    }

    public int found(int what) {
        if (!search.hasPlan()) {
            return NONE;
        }
        switch (what) {
            case 0:
                return search.planLength();
            case 1:
                return search.planCost();
            case 2:
                return search.currentFacts();
            case 3:
                return search.nodeCount();
            default:
                return NONE;
        }
    }

    public int node(int k, int what) {
        if (!search.hasNode(k)) {
            return NONE;
        }
        switch (what) {
            case 0:
                return search.nodeTask(k);
            case 1:
                return search.nodeParent(k);
            case 2:
                return search.nodeMethod(k);
            default:
                return NONE;
        }
    }

    public int check() {
        checker.begin();
        return checker.remaining();
    }

    public int told(int task, int method) {
        return checker.hear(task, method);
    }

    public int left() {
        return checker.remaining();
    }

    private int afterChange(int answer) {
        if (answer != NONE) {
            search.discard();
            checker.discard();
        }
        return answer;
    }

    private static boolean isFuel(int fuel) {
        return fuel >= 0 && fuel <= MAX_FUEL;
    }

    /** The tasks, the methods, the facts at the start and the aims; what is added answers NONE if it is refused. */
    private static final class Domain {
        private final int[] primitiveNeeds = new int[MAX_PRIMITIVES];
        private final int[] primitiveLacks = new int[MAX_PRIMITIVES];
        private final int[] primitiveAdds = new int[MAX_PRIMITIVES];
        private final int[] primitiveDrops = new int[MAX_PRIMITIVES];
        private final int[] primitiveCosts = new int[MAX_PRIMITIVES];
        private int primitiveCount;
        private final int[][] methodsOfCompound = new int[MAX_COMPOUNDS][MAX_METHODS_OF_ONE];
        private final int[] methodCounts = new int[MAX_COMPOUNDS];
        private int compoundCount;
        private final int[] methodTasks = new int[MAX_METHODS];
        private final int[] methodNeeds = new int[MAX_METHODS];
        private final int[] methodLacks = new int[MAX_METHODS];
        private final int[][] methodParts = new int[MAX_METHODS][MAX_PARTS];
        private final int[] partCounts = new int[MAX_METHODS];
        private int methodCount;
        private final int[] aims = new int[MAX_AIMS];
        private int aimCount;
        private int startFacts;

        int addPrimitive(int need, int lack, int add, int drop, int cost) {
            boolean bitsAreRight = isBits(need) && isBits(lack) && isBits(add) && isBits(drop);
            if (!bitsAreRight || cost < 0 || cost > MAX_COST || primitiveCount >= MAX_PRIMITIVES) {
                return NONE;
            }
            int code = primitiveCount;
            primitiveNeeds[code] = need;
            primitiveLacks[code] = lack;
            primitiveAdds[code] = add;
            primitiveDrops[code] = drop;
            primitiveCosts[code] = cost;
            primitiveCount++;
            return code;
        }

        int addCompound() {
            if (compoundCount >= MAX_COMPOUNDS) {
                return NONE;
            }
            int code = FIRST_COMPOUND + compoundCount;
            compoundCount++;
            return code;
        }

        int addMethod(int task, int need, int lack) {
            if (!isCompound(task) || !isBits(need) || !isBits(lack) || methodCount >= MAX_METHODS) {
                return NONE;
            }
            int place = methodCounts[task - FIRST_COMPOUND];
            if (place >= MAX_METHODS_OF_ONE) {
                return NONE;
            }
            int number = methodCount;
            methodTasks[number] = task;
            methodNeeds[number] = need;
            methodLacks[number] = lack;
            methodCount++;
            methodsOfCompound[task - FIRST_COMPOUND][place] = number;
            methodCounts[task - FIRST_COMPOUND] = place + 1;
            return number;
        }

        int addPart(int method, int task) {
            if (!isMethod(method) || !isTask(task) || partCounts[method] >= MAX_PARTS) {
                return NONE;
            }
            methodParts[method][partCounts[method]] = task;
            partCounts[method]++;
            return partCounts[method];
        }

        int setStart(int facts) {
            if (!isBits(facts)) {
                return NONE;
            }
            startFacts = facts;
            return facts;
        }

        int addAim(int task) {
            if (!isTask(task) || aimCount >= MAX_AIMS) {
                return NONE;
            }
            aims[aimCount] = task;
            aimCount++;
            return aimCount;
        }

        int clearAims() {
            int before = aimCount;
            aimCount = 0;
            return before;
        }

        boolean isPrimitive(int task) {
            return task >= 0 && task < primitiveCount;
        }

        boolean isCompound(int task) {
            return task >= FIRST_COMPOUND && task < FIRST_COMPOUND + compoundCount;
        }

        boolean isTask(int task) {
            return isPrimitive(task) || isCompound(task);
        }

        boolean isMethod(int method) {
            return method >= 0 && method < methodCount;
        }

        boolean isMethodOf(int method, int task) {
            return isMethod(method) && methodTasks[method] == task;
        }

        boolean canDo(int primitive, int facts) {
            return isPrimitive(primitive) && holds(primitiveNeeds[primitive], primitiveLacks[primitive], facts);
        }

        int factsAfter(int primitive, int facts) {
            return isPrimitive(primitive) ? (facts & ~primitiveDrops[primitive]) | primitiveAdds[primitive] : facts;
        }

        int costOf(int primitive) {
            return isPrimitive(primitive) ? primitiveCosts[primitive] : 0;
        }

        /** The method that stands at a place, from 0, among those of a task; NONE if there is none. */
        int methodAt(int task, int place) {
            if (!isCompound(task) || place < 0 || place >= methodCounts[task - FIRST_COMPOUND]) {
                return NONE;
            }
            return methodsOfCompound[task - FIRST_COMPOUND][place];
        }

        boolean methodHolds(int method, int facts) {
            return isMethod(method) && holds(methodNeeds[method], methodLacks[method], facts);
        }

        int partCount(int method) {
            return isMethod(method) ? partCounts[method] : 0;
        }

        int partAt(int method, int place) {
            if (!isMethod(method) || place < 0 || place >= partCounts[method]) {
                return NONE;
            }
            return methodParts[method][place];
        }

        int aimCount() {
            return aimCount;
        }

        int aimAt(int place) {
            return place >= 0 && place < aimCount ? aims[place] : NONE;
        }

        int startFacts() {
            return startFacts;
        }

        private static boolean isBits(int bits) {
            return bits >= 0 && bits <= ALL_BITS;
        }

        private static boolean holds(int need, int lack, int facts) {
            return (facts & need) == need && (facts & lack) == 0;
        }
    }

    /** Finds the first cycle among the compound tasks, anew each time it is asked. */
    private static final class CycleFinder {
        private static final int NOT_VISITED = 0;
        private static final int GOING_ON = 1;
        private static final int VISITED = 2;

        private final Domain domain;
        private final int[] marks = new int[MAX_COMPOUNDS];
        private final int[] path = new int[MAX_COMPOUNDS];
        private int cycleFrom;
        private int cycleTo;

        CycleFinder(Domain domain) {
            this.domain = domain;
        }

        boolean isCyclic() {
            for (int i = 0; i < MAX_COMPOUNDS; i++) {
                marks[i] = NOT_VISITED;
            }
            for (int i = 0; i < MAX_COMPOUNDS; i++) {
                int task = FIRST_COMPOUND + i;
                if (domain.isCompound(task) && meets(task, 0)) {
                    return true;
                }
            }
            return false;
        }

        /** The k-th task of the cycle, right only when isCyclic() has just found one. */
        int memberAt(int k) {
            return k >= 0 && k < cycleTo - cycleFrom ? path[cycleFrom + k] : NONE;
        }

        private boolean meets(int task, int depth) {
            int mark = marks[task - FIRST_COMPOUND];
            if (mark == GOING_ON) {
                keepCycle(task, depth);
                return true;
            }
            return mark == NOT_VISITED && visit(task, depth);
        }

        private boolean visit(int task, int depth) {
            // Never so deep: a task stands on the path once at the most.
            if (depth >= MAX_COMPOUNDS) {
                return false;
            }
            marks[task - FIRST_COMPOUND] = GOING_ON;
            path[depth] = task;
            for (int place = 0; place < MAX_METHODS_OF_ONE; place++) {
                if (meetsInParts(domain.methodAt(task, place), depth + 1)) {
                    return true;
                }
            }
            marks[task - FIRST_COMPOUND] = VISITED;
            return false;
        }

        private boolean meetsInParts(int method, int depth) {
            int count = domain.partCount(method);
            for (int place = 0; place < count; place++) {
                int task = domain.partAt(method, place);
                if (domain.isCompound(task) && meets(task, depth)) {
                    return true;
                }
            }
            return false;
        }

        private void keepCycle(int task, int depth) {
            cycleTo = depth;
            for (int i = 0; i < depth; i++) {
                if (path[i] == task) {
                    cycleFrom = i;
                }
            }
        }
    }

    /**
     * A row of tasks that are to be done, as a chain of cells. To take the first task away leaves its cell as it was:
     * so the row of an earlier moment is there again when its first cell and its number of cells are set again.
     */
    private static final class Row {
        private final int[] tasks = new int[MAX_CELLS];
        private final int[] parents = new int[MAX_CELLS];
        private final int[] nextCells = new int[MAX_CELLS];
        private final int[] lengths = new int[MAX_CELLS];
        private int firstCell = NONE;
        private int cellCount;

        void beginWithAims(Domain domain) {
            goBackTo(NONE, 0);
            for (int place = domain.aimCount() - 1; place >= 0; place--) {
                putFirst(domain.aimAt(place), NONE);
            }
        }

        void putPartsFirst(Domain domain, int method, int parent) {
            for (int place = domain.partCount(method) - 1; place >= 0; place--) {
                putFirst(domain.partAt(method, place), parent);
            }
        }

        void goBackTo(int earlierFirstCell, int earlierCellCount) {
            firstCell = earlierFirstCell;
            cellCount = earlierCellCount;
        }

        void takeFirst() {
            if (firstCell != NONE) {
                firstCell = nextCells[firstCell];
            }
        }

        int firstTask() {
            return firstCell == NONE ? NONE : tasks[firstCell];
        }

        int firstParent() {
            return firstCell == NONE ? NONE : parents[firstCell];
        }

        int length() {
            return firstCell == NONE ? 0 : lengths[firstCell];
        }

        int firstCell() {
            return firstCell;
        }

        int cellCount() {
            return cellCount;
        }

        private void putFirst(int task, int parent) {
            if (cellCount >= MAX_CELLS) {
                return;
            }
            tasks[cellCount] = task;
            parents[cellCount] = parent;
            nextCells[cellCount] = firstCell;
            lengths[cellCount] = length() + 1;
            firstCell = cellCount;
            cellCount++;
        }
    }

    /** The search with its tree; only the last node of the tree can be open. */
    private static final class Search {
        private final Domain domain;
        private final Row row = new Row();
        private final int[] tasks = new int[MAX_NODES];
        private final int[] parents = new int[MAX_NODES];
        private final int[] methodPlaces = new int[MAX_NODES];
        private final int[] firstCellsBehind = new int[MAX_NODES];
        private final int[] cellCountsBefore = new int[MAX_NODES];
        private final int[] factsBefore = new int[MAX_NODES];
        private int nodeCount;
        private boolean lastIsOpen;
        private int facts;
        private int stepCount;
        // NONE without a search, otherwise what plan() answers of it: MORE, FOUND or END.
        private int state = NONE;

        Search(Domain domain) {
            this.domain = domain;
        }

        void discard() {
            state = NONE;
            stepCount = 0;
            emptyTree();
        }

        void beginIfNone() {
            if (state == NONE) {
                state = MORE;
                facts = domain.startFacts();
                row.beginWithAims(domain);
            }
        }

        int goOn(int fuel) {
            seeWhetherFound();
            for (int made = 0; made < fuel && state == MORE; made++) {
                stepCount++;
                if (lastIsOpen) {
                    tryMethod(nodeCount - 1);
                } else {
                    takeTask();
                }
                seeWhetherFound();
            }
            return state;
        }

        boolean hasPlan() {
            return state == FOUND;
        }

        void rejectPlan() {
            if (state == FOUND) {
                state = MORE;
                fail();
            }
        }

        int stepCount() {
            return stepCount;
        }

        int planTask(int k) {
            int before = 0;
            for (int i = 0; i < nodeCount; i++) {
                if (domain.isPrimitive(tasks[i])) {
                    if (before == k) {
                        return tasks[i];
                    }
                    before++;
                }
            }
            return NONE;
        }

        int planLength() {
            int length = 0;
            for (int i = 0; i < nodeCount; i++) {
                if (domain.isPrimitive(tasks[i])) {
                    length++;
                }
            }
            return length;
        }

        int planCost() {
            int sum = 0;
            for (int i = 0; i < nodeCount; i++) {
                sum += domain.costOf(tasks[i]);
            }
            return sum;
        }

        int currentFacts() {
            return facts;
        }

        int nodeCount() {
            return nodeCount;
        }

        boolean hasNode(int k) {
            return k >= 0 && k < nodeCount;
        }

        int nodeTask(int k) {
            return hasNode(k) ? tasks[k] : NONE;
        }

        int nodeParent(int k) {
            return hasNode(k) ? parents[k] : NONE;
        }

        int nodeMethod(int k) {
            if (!hasNode(k) || (lastIsOpen && k == nodeCount - 1)) {
                return NONE;
            }
            return domain.methodAt(tasks[k], methodPlaces[k]);
        }

        private void seeWhetherFound() {
            if (state == MORE && !lastIsOpen && row.length() == 0) {
                state = FOUND;
            }
        }

        private void takeTask() {
            if (nodeCount >= MAX_NODES) {
                fail();
                return;
            }
            int task = row.firstTask();
            addNode(task);
            if (domain.canDo(task, facts)) {
                facts = domain.factsAfter(task, facts);
            } else if (domain.methodAt(task, 0) != NONE) {
                lastIsOpen = true;
            } else {
                fail();
            }
        }

        private void addNode(int task) {
            tasks[nodeCount] = task;
            parents[nodeCount] = row.firstParent();
            row.takeFirst();
            methodPlaces[nodeCount] = 0;
            firstCellsBehind[nodeCount] = row.firstCell();
            cellCountsBefore[nodeCount] = row.cellCount();
            factsBefore[nodeCount] = facts;
            nodeCount++;
        }

        private void tryMethod(int node) {
            int method = domain.methodAt(tasks[node], methodPlaces[node]);
            if (domain.methodHolds(method, facts)) {
                row.putPartsFirst(domain, method, node);
                lastIsOpen = false;
            } else if (hasMethodBehind(node)) {
                methodPlaces[node]++;
            } else {
                fail();
            }
        }

        private boolean hasMethodBehind(int node) {
            return domain.methodAt(tasks[node], methodPlaces[node] + 1) != NONE;
        }

        // Nodes are kept in the order in which they are made, and a node that fails while it is open has no method
        // behind: so the last node that has one is the one to go back to.
        private void fail() {
            for (int node = nodeCount - 1; node >= 0; node--) {
                if (hasMethodBehind(node)) {
                    reopen(node);
                    return;
                }
            }
            emptyTree();
            state = END;
        }

        private void reopen(int node) {
            row.goBackTo(firstCellsBehind[node], cellCountsBefore[node]);
            facts = factsBefore[node];
            nodeCount = node + 1;
            methodPlaces[node]++;
            lastIsOpen = true;
        }

        private void emptyTree() {
            nodeCount = 0;
            lastIsOpen = false;
        }
    }

    /** Follows a tree that it is told node by node. */
    private static final class Checker {
        private static final int RIGHT = 0;
        private static final int NOTHING_TO_DO = 1;
        private static final int NOT_THE_FIRST = 2;
        private static final int TOO_MANY = 3;
        private static final int CANNOT_BE_DONE = 4;
        private static final int NO_SUCH_METHOD = 5;
        private static final int METHOD_DOES_NOT_HOLD = 6;

        private final Domain domain;
        private final Row row = new Row();
        private int facts;
        private int takenCount;
        private boolean begun;

        Checker(Domain domain) {
            this.domain = domain;
        }

        void begin() {
            begun = true;
            takenCount = 0;
            facts = domain.startFacts();
            row.beginWithAims(domain);
        }

        void discard() {
            begun = false;
        }

        int remaining() {
            return begun ? row.length() : NONE;
        }

        int hear(int task, int method) {
            if (!begun) {
                return NONE;
            }
            int fault = faultOf(task, method);
            if (fault == RIGHT) {
                take(task, method);
            }
            return fault;
        }

        private int faultOf(int task, int method) {
            if (row.length() == 0) {
                return NOTHING_TO_DO;
            }
            if (row.firstTask() != task) {
                return NOT_THE_FIRST;
            }
            if (takenCount >= MAX_NODES) {
                return TOO_MANY;
            }
            if (domain.isPrimitive(task)) {
                return domain.canDo(task, facts) ? RIGHT : CANNOT_BE_DONE;
            }
            if (!domain.isMethodOf(method, task)) {
                return NO_SUCH_METHOD;
            }
            return domain.methodHolds(method, facts) ? RIGHT : METHOD_DOES_NOT_HOLD;
        }

        private void take(int task, int method) {
            row.takeFirst();
            if (domain.isPrimitive(task)) {
                facts = domain.factsAfter(task, facts);
            } else {
                row.putPartsFirst(domain, method, NONE);
            }
            takenCount++;
        }
    }
}
