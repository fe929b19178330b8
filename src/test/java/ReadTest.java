/** Promises 11, 12 and 13: member(), score() and worth(). */
public final class ReadTest {
    private static final Due due = new Due();

    public static void main(String[] args) {
        ScoreDifferences x = new ScoreDifferences();
        x.object();
        x.object();
        x.rule(2, 3, 10, 3, 1);
        x.rule(0, 1, 1, 2, 1);
        x.rule(3, 0, 0, 1, 2);
        x.change(0, 0, 0, 4);
        x.change(0, 1, 0, -3);
        x.change(0, 1, 1, 5);
        x.change(0, 1, 2, 0);
        int[][] members = {{4, 0, -1, 4}, {-3, 5, 0, 1}};
        for (int o = 0; o < 2; o++) {
            for (int m = 0; m < 4; m++) {
                due.is("member(0, " + o + ", " + m + ")", x.member(0, o, m), members[o][m]);
            }
        }
        int[][] noMembers = {{-1, 0, 0}, {1, 0, 0}, {0, -1, 0}, {0, 2, 0}, {0, 40, 0}, {0, 0, -1}, {0, 0, 4}};
        for (int[] w : noMembers) {
            due.is("no such member", x.member(w[0], w[1], w[2]), -1000000);
        }
        due.is("score(0, 0)", x.score(0, 0), 0);
        due.is("score(0, 1)", x.score(0, 1), 23);
        due.is("score(0, 2)", x.score(0, 2), 0);
        int[][] noScores = {{-1, 0}, {1, 0}, {0, -1}, {0, 3}, {Integer.MAX_VALUE, Integer.MIN_VALUE}};
        for (int[] w : noScores) {
            due.is("no such score", x.score(w[0], w[1]), -1);
        }
        x.forget(0, 0, true);
        x.change(0, 0, 0, 5);
        due.is("KEPT", x.worth(0, 0, 0), 15);
        due.is("FROM NOTHING", x.worth(0, 0, 1), 9);
        due.is("KEPT", x.worth(0, 1, 0), 8);
        due.is("FROM NOTHING", x.worth(0, 1, 1), 8);
        due.is("the SCORE is what is KEPT", x.score(0, 1), 23);
        int[][] noWorths = {{-1, 0, 0}, {1, 0, 0}, {0, -1, 0}, {0, 3, 0}, {0, 12, 1}, {0, 0, -1}, {0, 0, 2}};
        for (int[] w : noWorths) {
            due.is("no such worth", x.worth(w[0], w[1], w[2]), -1);
        }
        due.finish();
    }
}
