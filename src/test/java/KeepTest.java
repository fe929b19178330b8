/** Promises 17, 18 and 19: keep(), kept() and then(). */
public final class KeepTest {
    private static final Due due = new Due();

    public static void main(String[] args) {
        asThen();
        aheadOfObjects();
        twenty();
        due.finish();
    }

    private static void asThen() {
        ScoreDifferences x = new ScoreDifferences();
        x.object();
        x.object();
        x.rule(0, 3, 0, 1, 0);
        x.rule(3, 1, 0, 4, 2);
        x.change(0, 0, 0, 5);
        x.change(0, 1, 2, 0);
        x.forget(0, 0, true);
        x.change(0, 1, 0, 1);
        due.is("keep(0)", x.keep(0), 0);
        x.change(0, 1, 1, 7);
        x.mend(0, 0);
        x.fork(0);
        x.change(1, 0, 0, -9);
        due.is("keep(1)", x.keep(1), 1);
        x.undo(0);
        x.undo(0);
        long[][] scores = {{10, 0, 4}, {11, 0, 0}};
        int[][] second = {{1, 0, 0, 6}, {1, 7, 0, -8}};
        for (int number = 0; number < 2; number++) {
            for (int i = 0; i < 3; i++) {
                due.is("kept(" + number + ", " + i + ")", x.kept(number, i), scores[number][i]);
            }
            for (int m = 0; m < 4; m++) {
                due.is("then(" + number + ", 1, " + m + ")", x.then(number, 1, m), second[number][m]);
            }
        }
        int[][] noScores = {{-1, 0}, {2, 0}, {20, 0}, {0, -1}, {0, 3}};
        for (int[] w : noScores) {
            due.is("no such score", x.kept(w[0], w[1]), -1);
        }
        int[][] noMembers = {{-1, 0, 0}, {2, 0, 0}, {20, 0, 0}, {0, -1, 0}, {0, 2, 0}, {0, 0, -1}, {0, 0, 4}};
        for (int[] w : noMembers) {
            due.is("no such member", x.then(w[0], w[1], w[2]), -1000000);
        }
        due.is("keep(2)", x.keep(2), -1);
        due.is("keep(-1)", x.keep(-1), -1);
        due.is("all(4)", x.all(4), 2);
    }

    private static void aheadOfObjects() {
        ScoreDifferences x = new ScoreDifferences();
        x.rule(1, 0, -3, 1, 0);
        x.object();
        due.is("keep(0)", x.keep(0), 0);
        x.object();
        x.rule(0, 0, -1, 1, 0);
        due.is("the first", x.then(0, 0, 2), -1);
        due.is("one that came later", x.then(0, 1, 0), -1000000);
        due.is("without the later RULE", x.kept(0, 0), 3);
        due.is("with it", x.score(0, 0), 5);
    }

    private static void twenty() {
        ScoreDifferences x = new ScoreDifferences();
        x.object();
        for (int i = 0; i < 20; i++) {
            x.change(0, 0, 0, i);
            due.is("keep", x.keep(0), i);
        }
        due.is("a 21st", x.keep(0), -4);
        due.is("NONE stands ahead of FULL", x.keep(1), -1);
        due.is("all(4)", x.all(4), 20);
        due.is("kept(20, 0)", x.kept(20, 0), -1);
        due.is("then(20, 0, 0)", x.then(20, 0, 0), -1000000);
        for (int i = 0; i < 20; i++) {
            due.is("then", x.then(i, 0, 3), i);
        }
    }
}
