/** Promise 3: rule(), and what each KIND is worth. */
public final class RuleTest {
    private static final Due due = new Due();

    public static void main(String[] args) {
        wrongNumbers();
        edges();
        twelve();
        noneLater();
        kinds();
        kindsOfBefore();
        boundsOfCrowds();
        largest();
        due.finish();
    }

    private static void wrongNumbers() {
        int[][] wrong = {
            {-1, 0, 0, 1, 0}, {6, 0, 0, 1, 0}, {0, -1, 0, 1, 0}, {0, 4, 0, 1, 0},
            {0, 0, -1000001, 1, 0}, {0, 0, 1000001, 1, 0}, {0, 0, 0, 0, 0}, {0, 0, 0, 1001, 0},
            {0, 0, 0, -1, 0}, {0, 0, 0, 1, -1}, {0, 0, 0, 1, 3},
            {Integer.MIN_VALUE, 0, 0, 1, 0}, {0, Integer.MAX_VALUE, 0, 1, 0}, {0, 0, Integer.MIN_VALUE, 1, 0},
        };
        ScoreDifferences x = new ScoreDifferences();
        for (int[] w : wrong) {
            due.is("wrong rule", x.rule(w[0], w[1], w[2], w[3], w[4]), -1);
        }
        due.is("all(1)", x.all(1), 0);
    }

    private static void edges() {
        ScoreDifferences x = new ScoreDifferences();
        due.is("least", x.rule(0, 0, -1000000, 1, 0), 0);
        due.is("most", x.rule(5, 3, 1000000, 1000, 2), 1);
        due.is("all(1)", x.all(1), 2);
    }

    private static void twelve() {
        ScoreDifferences x = new ScoreDifferences();
        x.object();
        for (int r = 0; r < 12; r++) {
            due.is("rule() " + r, x.rule(2, 0, r, 1, 0), r);
        }
        due.is("a 13th", x.rule(2, 0, 0, 1, 0), -4);
        due.is("NONE stands ahead of FULL", x.rule(6, 0, 0, 1, 0), -1);
        due.is("the SCORE of all", x.score(0, 0), 66);
        x.change(0, 0, 0, 0);
        due.is("STATE stands ahead of FULL", x.rule(2, 0, 0, 1, 0), -3);
        due.is("NONE stands ahead of STATE", x.rule(6, 0, 0, 1, 0), -1);
    }

    private static void noneLater() {
        ScoreDifferences x = new ScoreDifferences();
        x.fork(0);
        due.is("rule() with two PLANS", x.rule(0, 0, 0, 1, 0), -3);
        due.is("all(1)", x.all(1), 0);
    }

    private static void kinds() {
        ScoreDifferences x = new ScoreDifferences();
        for (int o = 0; o < 5; o++) {
            x.object();
        }
        for (int kind = 0; kind <= 5; kind++) {
            x.rule(kind, 0, 2, 10, 0);
        }
        x.rule(2, 0, 100, 10, 0);
        x.rule(1, 0, 100, 10, 0);
        int[] loads = {7, 3, 3, -4, 3};
        int[] befores = {-1, 0, 1, 1, 3};
        for (int o = 0; o < 5; o++) {
            x.change(0, o, 0, loads[o]);
            x.change(0, o, 2, befores[o]);
        }
        long[] worth = {80, 100, 100, 30, 10, 20, 880, 0};
        for (int r = 0; r < worth.length; r++) {
            due.is("KEPT " + r, x.worth(0, r, 0), worth[r]);
            due.is("FROM NOTHING " + r, x.worth(0, r, 1), worth[r]);
        }
    }

    private static void kindsOfBefore() {
        ScoreDifferences x = new ScoreDifferences();
        for (int o = 0; o < 4; o++) {
            x.object();
        }
        for (int kind = 0; kind <= 5; kind++) {
            x.rule(kind, 2, 0, 1, 0);
        }
        x.change(0, 1, 2, 3);
        x.change(0, 0, 2, 1);
        x.change(0, 3, 2, 2);
        // BEFORE is now 1, 3, -1, 2
        long[] worth = {6, 5, 5, 0, 4, 1};
        for (int r = 0; r < worth.length; r++) {
            due.is("over BEFORE, KIND " + r, x.worth(0, r, 0), worth[r]);
        }
    }

    private static void boundsOfCrowds() {
        ScoreDifferences x = new ScoreDifferences();
        int[] bounds = {-1000000, -1, 0, 1, 2, 3, 4};
        long[] worth = {5, 5, 5, 3, 1, 0, 0};
        for (int c : bounds) {
            x.rule(4, 1, c, 1, 0);
        }
        for (int o = 0; o < 5; o++) {
            x.object();
        }
        x.change(0, 0, 1, 20);
        x.change(0, 3, 1, 20);
        for (int r = 0; r < bounds.length; r++) {
            due.is("crowds with " + bounds[r], x.worth(0, r, 0), worth[r]);
        }
    }

    private static void largest() {
        ScoreDifferences x = new ScoreDifferences();
        x.rule(0, 3, -1000000, 1000, 1);
        x.rule(2, 3, 1000000, 1000, 2);
        for (int o = 0; o < 40; o++) {
            x.object();
        }
        for (int o = 0; o < 40; o++) {
            x.change(0, o, 0, 1000);
        }
        for (int o = 1; o < 40; o++) {
            x.change(0, o, 2, o - 1);
        }
        due.is("the last END", x.member(0, 39, 3), 40000);
        due.is("beyond an int", x.score(0, 1), 40820000000L);
        due.is("how far off", x.score(0, 2), 180000000L);
        due.is("check(0)", x.check(0), -1);
    }
}
