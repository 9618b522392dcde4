/** Values outside the ranges of the document: the first on either side, the ends of int, and what wraps around. */
final class Edges {
    static final int MIN = Integer.MIN_VALUE;
    static final int MAX = Integer.MAX_VALUE;
    static final int ALL_BITS = 65535;
    /** Behind the ends of int come some whose low bits or whose amount alone would be right. */
    static final int[] NOT_BITS = {-1, 65536, MIN, MAX, MIN + 1, 65536 + 1, -2, -65535, -65536};
    static final int[] NOT_COSTS = {-1, 101, MIN, MAX, MIN + 50, 65536 + 50, -2, -100};
    static final int[] NOT_FUEL = {-1, 5001, MIN, MAX, MIN + 10, 65536 + 10, -2, -5000};
    /** No tasks in any domain; taking 16 from some of them wraps around. */
    static final int[] NEVER_TASKS = {-1, 12, 13, 14, 15, 28, -16, MIN, MIN + 15, MIN + 16, MAX, MAX - 1, 65536 + 16};
    static final int[] NEVER_METHODS = {-1, 40, -40, MIN, MIN + 1, MAX, 256, 65536};

    private Edges() {
    }
}
