/** Walks the search of the small domain from before its beginning until behind its end. */
final class Walk {
    interface Stop {
        void at(String name, TaskWeaver x);
    }

    private Walk() {
    }

    /** Stops wherever the search has found no plan, or there is none. */
    static void whereNoPlanIsFound(Stop stop) {
        TaskWeaver x = new TaskWeaver();
        stop.at("a new object", x);
        Domains.small(x);
        stop.at("without a search", x);
        x.plan(0);
        stop.at("before the first step", x);
        for (int step = 1; step < 8; step++) {
            x.plan(1);
            stop.at("behind step " + step, x);
        }
        x.plan(1);
        x.another(0);
        stop.at("while another plan is looked for", x);
        x.plan(5000);
        x.another(0);
        stop.at("at the end", x);
        x.start(0);
        stop.at("behind a change", x);
        x.part(0, 16);
        x.plan(5000);
        stop.at("when there is a cycle", x);
    }
}
