/** Promise 6: start. */
public final class StartTest {
    private static final Due due = new Due();

    public static void main(String[] args) {
        factsThatAreTaken();
        factsThatAreRefused();
        theLastOnesCount();
        refusedFactsChangeNothing();
        due.end();
    }

    /** "The facts at the start: true", from 0 to 65535, and every single bit of them. */
    private static void factsThatAreTaken() {
        TaskWeaver x = new TaskWeaver();
        isTaken(x, 0);
        isTaken(x, 65535);
        isTaken(x, 65534);
        for (int bit = 0; bit < 16; bit++) {
            isTaken(x, 1 << bit);
        }
        isTaken(x, 0);
    }

    private static void isTaken(TaskWeaver x, int facts) {
        due.is("start(" + facts + ")", x.start(facts), true);
        x.plan(0);
        due.is("facts " + facts, x.found(2), facts);
    }

    /** "false when they are not 0 .. 65535" */
    private static void factsThatAreRefused() {
        TaskWeaver x = new TaskWeaver();
        for (int facts : Edges.NOT_BITS) {
            due.is("start(" + facts + ")", x.start(facts), false);
        }
        x.plan(0);
        due.is("the facts are still 0", x.found(2), 0);
    }

    private static void theLastOnesCount() {
        TaskWeaver x = new TaskWeaver();
        x.start(12);
        x.start(3);
        x.plan(0);
        due.is("facts of the last start, not of both", x.found(2), 3);
    }

    private static void refusedFactsChangeNothing() {
        new Twins(due).unchangedInAllSituations("refused facts", x -> {
            Domains.small(x);
            x.start(64);
        }, x -> {
            for (int facts : Edges.NOT_BITS) {
                x.start(facts);
            }
        });
    }
}
