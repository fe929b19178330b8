import java.util.ArrayList;
import java.util.List;
import java.util.function.Consumer;
import java.util.function.ToLongFunction;

/**
 * A run of calls that is made anew, on a new object, for each look at what it leaves. So all that can be seen
 * behind it is compared, what can't be read but shows later (known CHANGES, a BATCH, when the next check
 * comes) too, and yet no object is used for more than its 512 calls: a run has 200 at most, and so has a look.
 */
final class Scene {
    private static final int MOST_QUESTIONS = 200;

    private interface Look {
        void at(ScoreDifferences x, List<String> seen);
    }

    private record Question(String call, ToLongFunction<ScoreDifferences> asks) { }

    private final Due due;
    private final Consumer<ScoreDifferences> run;
    private final List<Question> questions = new ArrayList<>();
    private final List<Look> looks = new ArrayList<>();
    private final List<String> asItIs;

    Scene(Due due, Consumer<ScoreDifferences> run) {
        this.due = due;
        this.run = run;
        ScoreDifferences x = start();
        int plans = x.all(2);
        askOfAll();
        for (int plan = 0; plan <= plans; plan++) {
            askOfPlan(plan, x.all(0), x.all(1));
        }
        for (int number = 0; number <= x.all(4); number++) {
            askOfKept(number, x.all(0));
        }
        for (int from = 0; from < questions.size(); from += MOST_QUESTIONS) {
            looks.add(reading(from));
        }
        for (int plan = 0; plan < plans; plan++) {
            addLooksBeyond(plan);
        }
        looks.add(Scene::grow);
        asItIs = seenBehind(nothing -> 0);
    }

    ScoreDifferences start() {
        ScoreDifferences x = new ScoreDifferences();
        run.accept(x);
        return x;
    }

    /** The call answers so, and nothing is changed by it. */
    void still(String call, ToLongFunction<ScoreDifferences> made, long want) {
        due.is(call, made.applyAsLong(start()), want);
        List<String> seen = seenBehind(made);
        int at = 0;
        while (at < asItIs.size() && asItIs.get(at).equals(seen.get(at))) {
            at++;
        }
        boolean same = at == asItIs.size();
        due.holds("behind " + call + (same ? "" : " " + seen.get(at) + ", without it " + asItIs.get(at)), same);
    }

    private List<String> seenBehind(ToLongFunction<ScoreDifferences> made) {
        List<String> seen = new ArrayList<>();
        for (Look look : looks) {
            ScoreDifferences x = start();
            made.applyAsLong(x);
            look.at(x, seen);
        }
        return seen;
    }

    private Look reading(int from) {
        int to = Math.min(from + MOST_QUESTIONS, questions.size());
        return (x, seen) -> {
            for (Question question : questions.subList(from, to)) {
                see(seen, question.call(), question.asks().applyAsLong(x));
            }
        };
    }

    private static void see(List<String> seen, String call, long answer) {
        seen.add(call + " = " + answer);
    }

    private void ask(String call, ToLongFunction<ScoreDifferences> asks) {
        questions.add(new Question(call, asks));
    }

    private void askOfAll() {
        for (int i = 0; i < 5; i++) {
            int what = i;
            ask("all(" + what + ")", x -> x.all(what));
        }
    }

    private void askOfPlan(int plan, int objects, int rules) {
        ask("check(" + plan + ")", x -> x.check(plan));
        for (int i = 0; i < 6; i++) {
            int what = i;
            ask("told(" + plan + ", " + what + ")", x -> x.told(plan, what));
        }
        for (int i = 0; i < 3; i++) {
            int level = i;
            ask("score(" + plan + ", " + level + ")", x -> x.score(plan, level));
        }
        for (int i = 0; i < 2 * (rules + 1); i++) {
            int rule = i / 2;
            int how = i % 2;
            ask("worth(" + plan + ", " + rule + ", " + how + ")", x -> x.worth(plan, rule, how));
        }
        for (int i = 0; i < 4 * (objects + 1); i++) {
            int object = i / 4;
            int m = i % 4;
            ask("member(" + plan + ", " + object + ", " + m + ")", x -> x.member(plan, object, m));
        }
    }

    private void askOfKept(int number, int objects) {
        for (int i = 0; i < 3; i++) {
            int level = i;
            ask("kept(" + number + ", " + level + ")", x -> x.kept(number, level));
        }
        for (int i = 0; i < 4 * (objects + 1); i++) {
            int object = i / 4;
            int m = i % 4;
            ask("then(" + number + ", " + object + ", " + m + ")", x -> x.then(number, object, m));
        }
    }

    private void addLooksBeyond(int plan) {
        looks.add((x, seen) -> undoAll(x, plan, seen));
        looks.add((x, seen) -> {
            see(seen, "end(" + plan + ", true)", x.end(plan, true));
            undoAll(x, plan, seen);
        });
        looks.add((x, seen) -> endAndGoOn(x, plan, seen));
    }

    private static void undoAll(ScoreDifferences x, int plan, List<String> seen) {
        for (int i = 0; i < 61; i++) {
            see(seen, "undo(" + plan + ")", x.undo(plan));
            see(seen, "cost behind it", x.told(plan, 2));
            see(seen, "check behind it", x.check(plan));
        }
        for (int level = 0; level < 3; level++) {
            see(seen, "score(" + plan + ", " + level + ") with all undone", x.score(plan, level));
        }
    }

    private static void endAndGoOn(ScoreDifferences x, int plan, List<String> seen) {
        see(seen, "end(" + plan + ", false)", x.end(plan, false));
        for (int i = 0; i < 12; i++) {
            see(seen, "change(" + plan + ") behind it", x.change(plan, i % 3, 0, 50 + i));
            see(seen, "FOUND behind that", x.told(plan, 3));
            see(seen, "COST behind that", x.told(plan, 2));
            for (int level = 0; level < 3; level++) {
                see(seen, "score(" + plan + ", " + level + ") behind that", x.score(plan, level));
                see(seen, "attempt(" + plan + ", " + level + ") behind that", x.attempt(plan, 1, 2, 0, level));
            }
        }
    }

    private static void grow(ScoreDifferences x, List<String> seen) {
        see(seen, "object()", x.object());
        see(seen, "rule(0, 0, 0, 1, 0)", x.rule(0, 0, 0, 1, 0));
        see(seen, "keep(0)", x.keep(0));
        see(seen, "fork(0)", x.fork(0));
        see(seen, "every(7)", x.every(7));
        for (int what = 0; what < 5; what++) {
            see(seen, "all(" + what + ") behind that", x.all(what));
        }
        see(seen, "check(0) behind that", x.check(0));
        for (int i = 0; i < 12; i++) {
            see(seen, "member(0, " + i / 4 + ", " + i % 4 + ") behind that", x.member(0, i / 4, i % 4));
        }
    }
}
