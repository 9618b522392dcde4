/** Promise 3: compound. */
public final class CompoundTest {
    private static final Due due = new Due();

    public static void main(String[] args) {
        codesUpToTheTwelfth();
        aNewOneHasNoMethods();
        refusedThirteenthChangesNothing();
        due.end();
    }

    /** "Its code": 16 .. 27; "NONE when there are 12". */
    private static void codesUpToTheTwelfth() {
        TaskWeaver x = new TaskWeaver();
        for (int code = 16; code < 28; code++) {
            due.is("aim(" + code + ") before there is one", x.aim(code), TaskWeaver.NONE);
            due.is("compound task " + code, x.compound(), code);
        }
        due.is("a 13th compound task", x.compound(), TaskWeaver.NONE);
        due.is("a 13th compound task, asked again", x.compound(), TaskWeaver.NONE);
        due.is("the last compound task", x.aim(27), 1);
        for (int code : Edges.NEVER_TASKS) {
            due.is("no task " + code, x.aim(code), TaskWeaver.NONE);
        }
        due.is("12 compound tasks leave room for primitive ones", x.primitive(0, 0, 0, 0, 0), 0);
    }

    private static void aNewOneHasNoMethods() {
        TaskWeaver x = Domains.compounds(12);
        x.aim(27);
        due.is("without methods: plan(1)", x.plan(1), TaskWeaver.END);
        x.check();
        due.is("without methods: told(27, 0)", x.told(27, 0), 5);
    }

    private static void refusedThirteenthChangesNothing() {
        new Twins(due).unchangedInAllSituations("a 13th compound task", Domains::full, TaskWeaver::compound);
    }
}
