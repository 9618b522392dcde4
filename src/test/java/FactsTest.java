/** The terms of facts and conditions, with what is done to facts: bit by bit, in the search and in the checker. */
public final class FactsTest {
    private static final Due due = new Due();

    public static void main(String[] args) {
        theEmptyConditionHoldsAlways();
        aNeedWantsAllItsBits();
        aLackWantsNoneOfItsBits();
        needAndLackOfOneBitHoldNever();
        droppedBitsGo();
        addedBitsCome();
        dropsGoBeforeAdds();
        allBitsAtOnce();
        due.end();
    }

    /** Whether the condition holds, asked of a primitive task and of a method, by the search and by the checker. */
    private static void isHolding(int need, int lack, int facts, boolean holds) {
        String name = "need " + need + ", lack " + lack + " in " + facts;
        TaskWeaver x = Domains.compounds(1);
        x.primitive(need, lack, 0, 0, 0);
        x.method(16, need, lack);
        x.start(facts);
        x.aim(0);
        due.is(name + ": plan of a primitive task", x.plan(1), holds ? TaskWeaver.FOUND : TaskWeaver.END);
        x.check();
        due.is(name + ": told of a primitive task", x.told(0, 0), holds ? 0 : 4);
        x.forget();
        x.aim(16);
        due.is(name + ": plan of a compound task", x.plan(2), holds ? TaskWeaver.FOUND : TaskWeaver.END);
        x.check();
        due.is(name + ": told of a compound task", x.told(16, 0), holds ? 0 : 6);
    }

    /** The facts behind a primitive task, for the search and for the checker. */
    private static void isMade(int add, int drop, int facts, int made) {
        String name = "add " + add + ", drop " + drop + " in " + facts;
        TaskWeaver x = new TaskWeaver();
        x.primitive(0, 0, add, drop, 0);
        x.primitive(made, Edges.ALL_BITS - made, 0, 0, 0);
        x.start(facts);
        Domains.aims(x, 0, 1);
        due.is(name + ": plan", x.plan(2), TaskWeaver.FOUND);
        due.is(name + ": the facts behind it", x.found(2), made);
        x.check();
        due.is(name + ": told", x.told(0, 0), 0);
        due.is(name + ": the checker's facts", x.told(1, 0), 0);
    }

    private static void theEmptyConditionHoldsAlways() {
        isHolding(0, 0, 0, true);
        isHolding(0, 0, Edges.ALL_BITS, true);
        isHolding(0, 0, 1, true);
    }

    /** "f has all bits of the need" */
    private static void aNeedWantsAllItsBits() {
        for (int i = 0; i < 16; i++) {
            int bit = 1 << i;
            isHolding(bit, 0, bit, true);
            isHolding(bit, 0, Edges.ALL_BITS, true);
            isHolding(bit, 0, 0, false);
            isHolding(bit, 0, Edges.ALL_BITS - bit, false);
            isHolding(Edges.ALL_BITS, 0, Edges.ALL_BITS - bit, false);
        }
        isHolding(Edges.ALL_BITS, 0, Edges.ALL_BITS, true);
    }

    /** "and none of the lack" */
    private static void aLackWantsNoneOfItsBits() {
        for (int i = 0; i < 16; i++) {
            int bit = 1 << i;
            isHolding(0, bit, 0, true);
            isHolding(0, bit, Edges.ALL_BITS - bit, true);
            isHolding(0, bit, bit, false);
            isHolding(0, bit, Edges.ALL_BITS, false);
            isHolding(0, Edges.ALL_BITS, bit, false);
        }
        isHolding(0, Edges.ALL_BITS, 0, true);
    }

    private static void needAndLackOfOneBitHoldNever() {
        isHolding(1, 1, 0, false);
        isHolding(1, 1, 1, false);
        isHolding(Edges.ALL_BITS, Edges.ALL_BITS, 0, false);
        isHolding(Edges.ALL_BITS, Edges.ALL_BITS, Edges.ALL_BITS, false);
    }

    /** "f without the dropped ones", those that are not there as well. */
    private static void droppedBitsGo() {
        for (int i = 0; i < 16; i++) {
            int bit = 1 << i;
            isMade(0, bit, Edges.ALL_BITS, Edges.ALL_BITS - bit);
            isMade(0, bit, 0, 0);
        }
    }

    /** "then with the added ones", those that are there already as well. */
    private static void addedBitsCome() {
        for (int i = 0; i < 16; i++) {
            int bit = 1 << i;
            isMade(bit, 0, 0, bit);
            isMade(bit, 0, Edges.ALL_BITS, Edges.ALL_BITS);
        }
    }

    /** A bit that is dropped and added is there behind it, whether it was there before or not. */
    private static void dropsGoBeforeAdds() {
        for (int i = 0; i < 16; i++) {
            int bit = 1 << i;
            isMade(bit, bit, 0, bit);
            isMade(bit, bit, bit, bit);
            isMade(bit, Edges.ALL_BITS, Edges.ALL_BITS, bit);
        }
    }

    private static void allBitsAtOnce() {
        isMade(0, 0, 0, 0);
        isMade(Edges.ALL_BITS, 0, 0, Edges.ALL_BITS);
        isMade(0, Edges.ALL_BITS, Edges.ALL_BITS, 0);
        isMade(Edges.ALL_BITS, Edges.ALL_BITS, 0, Edges.ALL_BITS);
    }
}
