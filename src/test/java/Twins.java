import java.util.ArrayList;
import java.util.List;

/**
 * Shows that calls change nothing: of two objects that were made by the same calls only one gets them, and then all
 * that can be seen of both is compared, and how they go on.
 */
final class Twins {
    interface Calls {
        void on(TaskWeaver x);
    }

    private record Situation(String name, Calls calls) {
    }

    private record Answer(String call, int value) {
    }

    private static final List<Situation> SITUATIONS = List.of(
        new Situation("nothing has begun", x -> { }),
        new Situation("the checker has begun", x -> tell(x, 0)),
        new Situation("the search has begun", x -> x.plan(0)),
        new Situation("a node is open", x -> {
            tell(x, 1);
            x.plan(2);
        }),
        new Situation("a node is kept", x -> {
            tell(x, 2);
            x.plan(4);
        }),
        new Situation("a plan is found", x -> {
            tell(x, 3);
            x.plan(5000);
        }),
        new Situation("another plan is looked for", x -> {
            x.plan(5000);
            x.another(0);
        }),
        new Situation("the search is at its end", x -> {
            tell(x, 99);
            x.plan(5000);
            endSearch(x);
        }));

    private final Due due;

    Twins(Due due) {
        this.due = due;
    }

    /** In every situation of a domain to which the small one belongs. */
    void unchangedInAllSituations(String name, Calls domain, Calls calls) {
        for (Situation situation : SITUATIONS) {
            unchanged(name + " while " + situation.name(), x -> {
                domain.on(x);
                situation.calls().on(x);
            }, calls);
        }
    }

    void unchanged(String name, Calls before, Calls calls) {
        List<List<Answer>> wanted = new ArrayList<>();
        List<List<Answer>> got = new ArrayList<>();
        for (int probe = 0; probe < 4; probe++) {
            TaskWeaver one = new TaskWeaver();
            TaskWeaver other = new TaskWeaver();
            before.on(one);
            before.on(other);
            calls.on(other);
            wanted.add(answers(one, probe));
            got.add(answers(other, probe));
        }
        for (int probe = 0; probe < wanted.size(); probe++) {
            compare(name, wanted.get(probe), got.get(probe));
        }
    }

    private void compare(String name, List<Answer> wanted, List<Answer> got) {
        for (int i = 0; i < wanted.size(); i++) {
            due.is(name + ": " + i + ". " + wanted.get(i).call(), got.get(i).value(), wanted.get(i).value());
        }
    }

    private static List<Answer> answers(TaskWeaver x, int probe) {
        List<Answer> answers = new ArrayList<>();
        switch (probe) {
            case 0 -> look(x, answers);
            case 1 -> searchOn(x, answers);
            case 2 -> checkOn(x, answers);
            default -> count(x, answers);
        }
        return answers;
    }

    private static void note(List<Answer> answers, String call, int value) {
        answers.add(new Answer(call, value));
    }

    private static void look(TaskWeaver x, List<Answer> answers) {
        note(answers, "steps()", x.steps());
        note(answers, "left()", x.left());
        for (int what = 0; what < 4; what++) {
            note(answers, "found(" + what + ")", x.found(what));
        }
        for (int k = 0; k < 48; k++) {
            note(answers, "task(" + k + ")", x.task(k));
            for (int what = 0; what < 3; what++) {
                note(answers, "node(" + k + ", " + what + ")", x.node(k, what));
            }
        }
        for (int k = 0; k < 12; k++) {
            note(answers, "cycle(" + k + ")", x.cycle(k));
        }
    }

    private static void searchOn(TaskWeaver x, List<Answer> answers) {
        note(answers, "another(1)", x.another(1));
        for (int i = 0; i < 10; i++) {
            note(answers, "plan(1)", x.plan(1));
            note(answers, "steps()", x.steps());
            for (int k = 0; k < 6; k++) {
                note(answers, "node(" + k + ", 0)", x.node(k, 0));
                note(answers, "node(" + k + ", 2)", x.node(k, 2));
            }
        }
        for (int i = 0; i < 8; i++) {
            note(answers, "plan(5000)", x.plan(5000));
            note(answers, "found(1)", x.found(1));
            note(answers, "found(2)", x.found(2));
            note(answers, "another(0)", x.another(0));
        }
    }

    private static void checkOn(TaskWeaver x, List<Answer> answers) {
        for (int i = 0; i < 50; i++) {
            for (int task : new int[] {0, 2, 3, 11}) {
                note(answers, "told(" + task + ", 0)", x.told(task, 0));
            }
            note(answers, "told(16, 2)", x.told(16, 2));
            note(answers, "told(17, 4)", x.told(17, 4));
            note(answers, "told(18, 10)", x.told(18, 10));
            note(answers, "left()", x.left());
        }
    }

    /** How much of everything there is, which only calls that add to it can tell. */
    private static void count(TaskWeaver x, List<Answer> answers) {
        note(answers, "check()", x.check());
        note(answers, "aim(0)", x.aim(0));
        for (int method = 0; method < 40; method++) {
            for (int i = 0; i < 5; i++) {
                note(answers, "part(" + method + ", 0)", x.part(method, 0));
            }
        }
        for (int task = 16; task < 28; task++) {
            note(answers, "method(" + task + ", 0, 0)", x.method(task, 0, 0));
        }
        note(answers, "compound()", x.compound());
        note(answers, "primitive()", x.primitive(0, 0, 0, 0, 0));
        note(answers, "forget()", x.forget());
        note(answers, "plan(0)", x.plan(0));
        note(answers, "found(2)", x.found(2));
    }

    private static void tell(TaskWeaver x, int nodes) {
        int[][] tree = {{16, 2}, {0, 0}, {0, 0}, {17, 4}};
        x.check();
        for (int i = 0; i < nodes && i < tree.length; i++) {
            x.told(tree[i][0], tree[i][1]);
        }
    }

    private static void endSearch(TaskWeaver x) {
        for (int i = 0; i < 20 && x.another(5000) == TaskWeaver.FOUND; i++) {
            x.steps();
        }
    }
}
