/** Promise 7: attempt(). */
public final class AttemptTest {
    private static final Due due = new Due();
    private static final int LEAST = Integer.MIN_VALUE;
    private static final int MOST = Integer.MAX_VALUE;

    public static void main(String[] args) {
        wouldBe();
        nothingChanges();
        refused();
        noSuchPlanOrLevel();
        atTheEdges();
        forgetting();
        below();
        due.finish();
    }

    private static void made(ScoreDifferences x) {
        Scenes.objects(x, 2);
        x.rule(0, 3, 10, 2, 0);
        x.rule(3, 1, 0, 5, 1);
        x.rule(1, 0, 0, 1, 1);
        x.rule(2, 2, 0, 1, 2);
        x.every(3);
        x.change(0, 0, 0, 12);
        x.change(0, 1, 2, 0);
    }

    private static void wouldBe() {
        due.sentence("What the SCORE of a LEVEL would be behind a CHANGE");
        Scene scene = new Scene(due, AttemptTest::made);
        ScoreDifferences x = scene.start();
        due.is("score 0", x.score(0, 0), 8);
        due.is("score 1", x.score(0, 1), 17);
        due.is("score 2", x.score(0, 2), 1);
        due.is("ENDS follow in it", x.attempt(0, 0, 0, 20, 0), 40);
        due.is("less", x.attempt(0, 0, 0, 0, 0), 0);
        due.is("another LEVEL", x.attempt(0, 0, 0, 20, 1), 25);
        due.is("a LEVEL that it does not touch", x.attempt(0, 0, 0, 20, 2), 1);
        due.is("GROUP", x.attempt(0, 0, 1, 1, 1), 12);
        due.is("BEFORE", x.attempt(0, 1, 2, -1, 0), 4);
        due.is("the same number", x.attempt(0, 0, 0, 12, 1), 17);
    }

    private static void nothingChanges() {
        due.sentence("Nothing changes (COST neither).");
        Scene busy = new Scene(due, Scenes::busy);
        int[][] tries = {{0, 0, 1000}, {1, 1, 20}, {1, 2, -1}, {3, 2, 2}, {2, 0, 0}, {4, 1, 0}};
        for (int[] t : tries) {
            for (int i = 0; i < 3; i++) {
                int level = i;
                ScoreDifferences x = busy.start();
                x.change(0, t[0], t[1], t[2]);
                busy.still("attempt(0, " + t[0] + ", " + t[1] + ", " + t[2] + ", " + level + ")",
                    y -> y.attempt(0, t[0], t[1], t[2], level), x.score(0, level));
            }
        }
        Scene young = new Scene(due, Scenes::young);
        young.still("it is no CHANGE: objects may come", x -> x.attempt(0, 0, 1, 1, 0), 30);
    }

    private static void refused() {
        due.sentence("the SCORE as it is, if that is REFUSED, or there are no such object, MEMBER");
        Scene scene = new Scene(due, AttemptTest::made);
        int[][] wrong = {
            {2, 0, 5}, {-1, 0, 5}, {40, 0, 5}, {LEAST, 0, 5}, {MOST, 0, 5},
            {0, 3, 5}, {0, -1, 5}, {0, 4, 5}, {0, LEAST, 5}, {0, MOST, 5},
            {0, 0, 1001}, {0, 0, -1001}, {0, 0, MOST}, {0, 1, 21}, {0, 1, -1}, {0, 1, LEAST},
            {0, 2, 0}, {0, 2, 1}, {0, 2, 2}, {0, 2, -2}, {0, 2, MOST}, {MOST, LEAST, 0},
        };
        for (int[] w : wrong) {
            scene.still("attempt(0, " + w[0] + ", " + w[1] + ", " + w[2] + ", 0)",
                x -> x.attempt(0, w[0], w[1], w[2], 0), 8);
        }
    }

    private static void noSuchPlanOrLevel() {
        due.sentence("-1 if there is no such PLAN, LEVEL");
        Scene scene = new Scene(due, AttemptTest::made);
        int[][] wrong = {{-1, 0}, {1, 0}, {4, 0}, {LEAST, 0}, {MOST, 0}, {0, -1}, {0, 3}, {0, LEAST}, {0, MOST}};
        for (int[] w : wrong) {
            String there = "attempt(" + w[0] + ", .., " + w[1] + ")";
            scene.still(there, x -> x.attempt(w[0], 0, 0, 20, w[1]), -1);
            scene.still(there + " of a REFUSED one", x -> x.attempt(w[0], 0, 0, 1001, w[1]), -1);
            scene.still(there + " of no object", x -> x.attempt(w[0], 9, 0, 0, w[1]), -1);
        }
    }

    private static void atTheEdges() {
        due.sentence("LOAD (-1000 .. 1000), GROUP (0 .. 20), BEFORE (another object, or -1), LEVEL 0 .. 2: in an attempt");
        ScoreDifferences x = new ScoreDifferences();
        Scenes.objects(x, 40);
        x.rule(2, 0, 0, 1, 0);
        x.rule(2, 1, 0, 1, 1);
        x.rule(2, 2, -40, 1, 2);
        x.fork(0);
        x.fork(0);
        x.fork(0);
        due.is("least LOAD", x.attempt(3, 39, 0, -1000, 0), 1000);
        due.is("most LOAD", x.attempt(3, 39, 0, 1000, 0), 1000);
        due.is("beyond", x.attempt(3, 39, 0, 1001, 0), 0);
        due.is("beyond", x.attempt(3, 39, 0, -1001, 0), 0);
        due.is("most GROUP", x.attempt(3, 39, 1, 20, 1), 20);
        due.is("beyond", x.attempt(3, 39, 1, 21, 1), 0);
        due.is("least GROUP", x.attempt(3, 39, 1, 0, 1), 0);
        due.is("the last BEFORE", x.attempt(3, 38, 2, 39, 2), 40);
        due.is("beyond", x.attempt(3, 38, 2, 40, 2), 0);
        due.is("itself", x.attempt(3, 39, 2, 39, 2), 0);
        due.is("the first BEFORE", x.attempt(3, 38, 2, 0, 2), 1);
        due.is("none", x.attempt(3, 38, 2, -1, 2), 0);
    }

    private static void forgetting() {
        due.sentence("What the SCORE .. would be behind a CHANGE: one that FORGETS stays");
        ScoreDifferences x = new ScoreDifferences();
        made(x);
        x.forget(0, 0, true);
        due.is("what FORGETS stays", x.attempt(0, 0, 0, 20, 0), 8);
        x.forget(0, 0, false);
        due.is("what does not follows", x.attempt(0, 0, 0, 20, 0), 40);
    }

    private static void below() {
        due.sentence("What the SCORE of a LEVEL would be: also below 0, by a RULE that forgot");
        ScoreDifferences x = Scenes.withObjects(1);
        x.rule(0, 0, 0, 1, 0);
        x.forget(0, 0, true);
        x.change(0, 0, 0, 5);
        x.forget(0, 0, false);
        due.is("attempt", x.attempt(0, 0, 0, 2, 0), -3);
        due.is("score as it is", x.attempt(0, 0, 3, 2, 0), 0);
        x.change(0, 0, 0, 2);
        due.is("score", x.score(0, 0), -3);
        due.is("refused", x.attempt(0, 0, 0, 1001, 0), -3);
    }
}
