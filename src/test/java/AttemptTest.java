/** Promise 7: attempt(). */
public final class AttemptTest {
    private static final Due due = new Due();

    public static void main(String[] args) {
        ScoreDifferences x = new ScoreDifferences();
        x.object();
        x.object();
        x.rule(0, 3, 10, 2, 0);
        x.rule(3, 1, 0, 5, 1);
        x.rule(1, 0, 0, 1, 1);
        x.rule(2, 2, 0, 1, 2);
        x.every(1);
        x.change(0, 0, 0, 12);
        x.change(0, 1, 2, 0);
        due.is("score 0", x.score(0, 0), 8);
        due.is("score 1", x.score(0, 1), 17);
        due.is("score 2", x.score(0, 2), 1);
        due.is("ENDS follow in it", x.attempt(0, 0, 0, 20, 0), 40);
        due.is("less", x.attempt(0, 0, 0, 0, 0), 0);
        due.is("another LEVEL", x.attempt(0, 0, 0, 20, 1), 25);
        due.is("a LEVEL that it does not touch", x.attempt(0, 0, 0, 20, 2), 1);
        due.is("GROUP", x.attempt(0, 0, 1, 1, 1), 12);
        due.is("BEFORE", x.attempt(0, 1, 2, -1, 0), 4);
        due.is("the same number", x.attempt(0, 0, 0, 12, 1), 17);
        refused(x);
        due.is("no such PLAN", x.attempt(1, 0, 0, 0, 0), -1);
        due.is("no such PLAN", x.attempt(-1, 0, 0, 0, 0), -1);
        due.is("no such LEVEL", x.attempt(0, 0, 0, 0, 3), -1);
        due.is("no such LEVEL", x.attempt(0, 0, 0, 0, -1), -1);
        nothingChanged(x);
        x.forget(0, 0, true);
        due.is("what FORGETS stays", x.attempt(0, 0, 0, 20, 0), 8);
        due.finish();
    }

    private static void refused(ScoreDifferences x) {
        int[][] wrong = {
            {2, 0, 5}, {-1, 0, 5}, {0, 3, 5}, {0, -1, 5}, {0, 0, 1001}, {0, 0, -1001}, {0, 1, 21}, {0, 1, -1},
            {0, 2, 0}, {0, 2, 1}, {0, 2, 2}, {0, 2, -2}, {Integer.MAX_VALUE, Integer.MIN_VALUE, 0},
        };
        for (int[] w : wrong) {
            due.is("REFUSED", x.attempt(0, w[0], w[1], w[2], 0), 8);
        }
    }

    private static void nothingChanged(ScoreDifferences x) {
        int[] told = {2, 2, 4, -1, 0, 0};
        for (int what = 0; what < told.length; what++) {
            due.is("told(0, " + what + ")", x.told(0, what), told[what]);
        }
        due.is("LOAD", x.member(0, 0, 0), 12);
        due.is("GROUP", x.member(0, 0, 1), 0);
        due.is("BEFORE", x.member(0, 1, 2), 0);
        due.is("END", x.member(0, 1, 3), 12);
        due.is("score", x.score(0, 0), 8);
        due.is("check", x.check(0), -1);
    }
}
