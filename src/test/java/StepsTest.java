/** Promise 12: steps. */
public final class StepsTest {
    private static final Due due = new Due();

    public static void main(String[] args) {
        zeroWithoutASearch();
        everyStepCounts();
        noStepIsMade();
        aChangeEndsTheCount();
        askingChangesNothing();
        due.end();
    }

    /** "0 when there is none" */
    private static void zeroWithoutASearch() {
        TaskWeaver x = new TaskWeaver();
        due.is("a new object", x.steps(), 0);
        Domains.small(x);
        due.is("a domain without a search", x.steps(), 0);
        x.check();
        x.told(16, 2);
        due.is("the checker makes no steps", x.steps(), 0);
        x.plan(5001);
        x.another(5);
        due.is("refused calls begin no search", x.steps(), 0);
        x.part(0, 16);
        x.plan(5000);
        due.is("a cycle lets no search begin", x.steps(), 0);
    }

    /** "How many steps the search has made" */
    private static void everyStepCounts() {
        TaskWeaver x = Domains.small();
        int[] fuels = {0, 1, 2, 0, 4};
        int sum = 0;
        for (int fuel : fuels) {
            x.plan(fuel);
            sum += fuel;
            due.is("behind plan(" + fuel + ")", x.steps(), sum);
        }
        x.plan(5000);
        due.is("only those that were made", x.steps(), 8);
        x.another(2);
        due.is("behind another(2)", x.steps(), 10);
        x.plan(5000);
        due.is("the second plan", x.steps(), 12);
        x.another(5000);
        due.is("at the end", x.steps(), 12);
    }

    private static void noStepIsMade() {
        TaskWeaver x = Domains.small();
        x.plan(8);
        x.plan(5000);
        x.plan(-1);
        x.another(5001);
        x.check();
        x.told(16, 2);
        x.start(-1);
        due.is("found", x.steps(), 8);
        x.another(5000);
        x.another(5000);
        x.plan(5000);
        x.another(5000);
        due.is("at the end", x.steps(), 12);
    }

    private static void aChangeEndsTheCount() {
        TaskWeaver x = Domains.small();
        x.plan(5);
        x.start(0);
        due.is("behind a change", x.steps(), 0);
        x.plan(3);
        due.is("the new search counts from 0", x.steps(), 3);
    }

    private static void askingChangesNothing() {
        new Twins(due).unchangedInAllSituations("steps", Domains::small, TaskWeaver::steps);
    }
}
