import java.util.function.Consumer;

/** Promise 3: rule(), and the numbers that a RULE may have. What it is worth stands in WorthTest. */
public final class RuleTest {
    private static final Due due = new Due();
    private static final int LEAST = Integer.MIN_VALUE;
    private static final int MOST = Integer.MAX_VALUE;

    public static void main(String[] args) {
        kinds();
        members();
        bounds();
        weights();
        levels();
        twelve();
        state();
        firstRefusalNamed();
        itsComing();
        due.finish();
    }

    /** The number stands at one place of the five, the others are right. */
    private static int[] numbers(int place, int number) {
        int[] right = {0, 0, 0, 1, 0};
        right[place] = number;
        return right;
    }

    private static long rule(ScoreDifferences x, int[] n) {
        return x.rule(n[0], n[1], n[2], n[3], n[4]);
    }

    private static void range(int place, int least, int most) {
        due.is("the least", rule(new ScoreDifferences(), numbers(place, least)), 0);
        due.is("the most", rule(new ScoreDifferences(), numbers(place, most)), 0);
        Scene young = new Scene(due, Scenes::young);
        int[] beyond = {least - 1, most + 1, LEAST, MOST};
        for (int number : beyond) {
            young.still("rule() with " + number, x -> rule(x, numbers(place, number)), -1);
        }
    }

    private static void kinds() {
        due.sentence("a KIND (0 .. 5); NONE");
        range(0, 0, 5);
    }

    private static void members() {
        due.sentence("A RULE more (m 0 .. 3); NONE");
        range(1, 0, 3);
    }

    private static void bounds() {
        due.sentence("a BOUND c (-1000000 .. 1000000); NONE");
        range(2, -1000000, 1000000);
    }

    private static void weights() {
        due.sentence("a WEIGHT (1 .. 1000); NONE");
        range(3, 1, 1000);
    }

    private static void levels() {
        due.sentence("a LEVEL 0 .. 2; NONE");
        range(4, 0, 2);
        ScoreDifferences x = new ScoreDifferences();
        for (int level = 0; level < 3; level++) {
            x.rule(2, 0, 10 + level, 1, level);
        }
        for (int level = 0; level < 3; level++) {
            due.is("score of LEVEL " + level, x.score(0, level), 10 + level);
        }
    }

    private static void twelve() {
        due.sentence("RULES are numbered as they come, 12 at most; FULL");
        ScoreDifferences x = new ScoreDifferences();
        for (int r = 0; r < 12; r++) {
            due.is("rule()", x.rule(2, 0, r, 1, 0), r);
            due.is("all(1)", x.all(1), r + 1);
        }
        due.is("the SCORE of all", x.score(0, 0), 66);
        due.is("the 12th's", x.worth(0, 11, 0), 11);
        Scene full = new Scene(due, y -> {
            Scenes.young(y);
            Scenes.rules(y);
        });
        full.still("a 13th", y -> y.rule(2, 0, 0, 1, 0), -4);
        full.still("worth(0, 12, 0)", y -> y.worth(0, 12, 0), -1);
    }

    private static void state() {
        due.sentence("STATE as object()");
        stateBehind("a second PLAN", x -> x.fork(0));
        stateBehind("a CHANGE", x -> x.change(0, 0, 1, 4));
        stateBehind("a CHANGE that gives no MEMBER another number", x -> x.change(0, 0, 1, 0));
        stateBehind("an undone CHANGE", x -> {
            x.change(0, 0, 1, 4);
            x.undo(0);
        });
        ScoreDifferences x = new ScoreDifferences();
        Scenes.young(x);
        x.change(0, 0, 1, 21);
        x.attempt(0, 0, 1, 4, 0);
        x.fork(4);
        due.is("rule() behind what was refused and tried", x.rule(0, 0, 0, 1, 0), 6);
    }

    private static void stateBehind(String what, Consumer<ScoreDifferences> calls) {
        Scene scene = new Scene(due, x -> {
            Scenes.young(x);
            calls.accept(x);
        });
        scene.still("rule() behind " + what, x -> x.rule(0, 0, 0, 1, 0), -3);
    }

    private static void firstRefusalNamed() {
        due.sentence("NONE; STATE as object(); FULL. (several: the first that is named)");
        Scene full = new Scene(due, x -> {
            Scenes.rules(x);
            Scenes.rules(x);
        });
        full.still("NONE and FULL", x -> x.rule(6, 0, 0, 1, 0), -1);
        Scene fullAndState = new Scene(due, x -> {
            Scenes.rules(x);
            Scenes.rules(x);
            x.fork(0);
        });
        fullAndState.still("STATE and FULL", x -> x.rule(2, 0, 0, 1, 0), -3);
        fullAndState.still("all three", x -> x.rule(0, 0, 0, 1001, 0), -1);
    }

    private static void itsComing() {
        due.sentence("KEPT at a number: 0 at first, and what its coming .. makes it worth FROM NOTHING more is put to it");
        ScoreDifferences x = Scenes.withObjects(3);
        due.is("one that is worth nothing", x.rule(0, 0, 0, 1, 0), 0);
        due.is("KEPT", x.worth(0, 0, 0), 0);
        due.is("one that is worth something", x.rule(0, 0, -4, 2, 0), 1);
        due.is("KEPT", x.worth(0, 1, 0), 24);
        due.is("SCORE", x.score(0, 0), 24);
        due.is("no COST", x.told(0, 2), 0);
        due.is("check(0)", x.check(0), -1);
    }
}
