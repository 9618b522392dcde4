/** Promise 2: primitive. */
public final class PrimitiveTest {
    private static final Due due = new Due();
    private static final Twins twins = new Twins(due);
    private static final String[] ROWS = {"need", "lack", "add", "drop"};

    public static void main(String[] args) {
        codesUpToTheTwelfth();
        bitsAtTheirEnds();
        bitsOutside();
        costAtItsEnds();
        costOutside();
        allRowsAreKept();
        allTwelveAreKeptApart();
        refusedBitsChangeNothing();
        refusedCostChangesNothing();
        refusedThirteenthChangesNothing();
        due.end();
    }

    private static int withRow(TaskWeaver x, int row, int bits) {
        int[] rows = new int[4];
        rows[row] = bits;
        return x.primitive(rows[0], rows[1], rows[2], rows[3], 0);
    }

    /** "Its code": 0 .. 11; "NONE when ... there are 12". */
    private static void codesUpToTheTwelfth() {
        TaskWeaver x = new TaskWeaver();
        for (int code = 0; code < 12; code++) {
            due.is("aim(" + code + ") before there is one", x.aim(code), TaskWeaver.NONE);
            due.is("primitive task " + code, x.primitive(0, 0, 0, 0, 0), code);
        }
        due.is("a 13th primitive task", x.primitive(0, 0, 0, 0, 0), TaskWeaver.NONE);
        due.is("a 13th primitive task, asked again", x.primitive(1, 1, 1, 1, 1), TaskWeaver.NONE);
        due.is("the last primitive task", x.aim(11), 1);
        for (int code : Edges.NEVER_TASKS) {
            due.is("no task " + code, x.aim(code), TaskWeaver.NONE);
        }
        due.is("12 primitive tasks leave room for compound ones", x.compound(), 16);
    }

    /** "a row of bits is not 0 .. 65535": the last values that are taken. */
    private static void bitsAtTheirEnds() {
        TaskWeaver x = new TaskWeaver();
        for (int row = 0; row < 4; row++) {
            due.is(ROWS[row] + " 0", withRow(x, row, 0), 2 * row);
            due.is(ROWS[row] + " 65535", withRow(x, row, 65535), 2 * row + 1);
        }
        due.is("all rows 65535", x.primitive(65535, 65535, 65535, 65535, 100), 8);
    }

    /** "a row of bits is not 0 .. 65535": the first values that are refused, and the ends of int. */
    private static void bitsOutside() {
        TaskWeaver x = new TaskWeaver();
        for (int row = 0; row < 4; row++) {
            for (int bits : Edges.NOT_BITS) {
                due.is(ROWS[row] + " " + bits, withRow(x, row, bits), TaskWeaver.NONE);
            }
        }
        due.is("a refused one takes no code", x.primitive(0, 0, 0, 0, 0), 0);
    }

    /** "cost not 0 .. 100": the last values that are taken, as they are kept. */
    private static void costAtItsEnds() {
        TaskWeaver x = new TaskWeaver();
        int[] costs = {0, 1, 99, 100};
        for (int i = 0; i < costs.length; i++) {
            due.is("cost " + costs[i], x.primitive(0, 0, 0, 0, costs[i]), i);
            x.forget();
            x.aim(i);
            x.plan(1);
            due.is("cost " + costs[i] + " is kept", x.found(1), costs[i]);
        }
    }

    /** "cost not 0 .. 100": the first values that are refused, and the ends of int. */
    private static void costOutside() {
        TaskWeaver x = new TaskWeaver();
        for (int cost : Edges.NOT_COSTS) {
            due.is("cost " + cost, x.primitive(0, 0, 0, 0, cost), TaskWeaver.NONE);
        }
        due.is("a refused one takes no code", x.primitive(0, 0, 0, 0, 0), 0);
    }

    private static void allRowsAreKept() {
        TaskWeaver x = new TaskWeaver();
        x.primitive(0b0011, 0b0100, 0b1001, 0b0011, 42);
        x.start(0b0011);
        x.aim(0);
        due.is("need and lack hold", x.plan(1), TaskWeaver.FOUND);
        due.is("dropped first, then added", x.found(2), 0b1001);
        due.is("its cost", x.found(1), 42);
        x.start(0b0001);
        due.is("one bit of the need is missing", x.plan(1), TaskWeaver.END);
        x.start(0b0111);
        due.is("a bit of the lack is there", x.plan(1), TaskWeaver.END);
        x.start(0b1000000000010011);
        due.is("other bits are free", x.plan(1), TaskWeaver.FOUND);
        due.is("and stay", x.found(2), 0b1000000000011001);
    }

    private static void allTwelveAreKeptApart() {
        TaskWeaver x = new TaskWeaver();
        for (int i = 0; i < 12; i++) {
            x.primitive(1 << i, 1 << i + 1, 1 << i + 1, 1 << i, i + 1);
        }
        x.start(1);
        for (int first : new int[] {0, 6}) {
            for (int i = first; i < first + 6; i++) {
                x.aim(i);
            }
            due.is("from " + first + ": plan(6)", x.plan(6), TaskWeaver.FOUND);
            due.is("from " + first + ": facts", x.found(2), 1 << first + 6);
            due.is("from " + first + ": cost", x.found(1), first == 0 ? 21 : 57);
            x.forget();
            x.start(1 << first + 6);
        }
    }

    private static void refusedBitsChangeNothing() {
        twins.unchangedInAllSituations("refused bits", Domains::small, x -> {
            for (int bits : Edges.NOT_BITS) {
                for (int row = 0; row < 4; row++) {
                    withRow(x, row, bits);
                }
            }
        });
    }

    private static void refusedCostChangesNothing() {
        twins.unchangedInAllSituations("a refused cost", Domains::small, x -> {
            for (int cost : Edges.NOT_COSTS) {
                x.primitive(0, 0, 0, 0, cost);
            }
        });
    }

    private static void refusedThirteenthChangesNothing() {
        twins.unchangedInAllSituations("a 13th primitive task", Domains::full, x -> x.primitive(0, 0, 7, 7, 7));
    }
}
