/** Promise 4: forget(). */
public final class ForgetTest {
    private static final Due due = new Due();

    public static void main(String[] args) {
        whatItWas();
        stays();
        lasts();
        due.finish();
    }

    private static ScoreDifferences made() {
        ScoreDifferences x = new ScoreDifferences();
        x.object();
        x.rule(0, 0, 0, 1, 0);
        x.rule(0, 0, 0, 1, 0);
        return x;
    }

    private static void whatItWas() {
        ScoreDifferences x = made();
        due.is("forget", x.forget(0, 1, true), 0);
        due.is("again", x.forget(0, 1, true), 1);
        due.is("told(0, 5)", x.told(0, 5), 1);
        due.is("not any more", x.forget(0, 1, false), 1);
        due.is("still not", x.forget(0, 1, false), 0);
        int[][] wrong = {{-1, 0}, {1, 0}, {0, -1}, {0, 2}, {4, 12}, {Integer.MIN_VALUE, Integer.MAX_VALUE}};
        for (int[] w : wrong) {
            due.is("no such thing", x.forget(w[0], w[1], true), -1);
        }
        due.is("told(0, 5)", x.told(0, 5), 0);
    }

    private static void stays() {
        ScoreDifferences x = made();
        x.forget(0, 0, true);
        due.is("change", x.change(0, 0, 0, 7), 2);
        due.is("the one that FORGETS stays", x.worth(0, 0, 0), 0);
        due.is("the other follows", x.worth(0, 1, 0), 7);
        due.is("its SCORE", x.score(0, 0), 7);
        due.is("COST is paid for both", x.told(0, 2), 2);
        due.is("attempt", x.attempt(0, 0, 0, 9, 0), 9);
        x.forget(0, 0, false);
        x.change(0, 0, 0, 3);
        due.is("differences go on from what was KEPT", x.worth(0, 0, 0), -4);
        due.is("FROM NOTHING", x.worth(0, 0, 1), 3);
    }

    private static void lasts() {
        ScoreDifferences x = made();
        x.change(0, 0, 0, 4);
        x.forget(0, 0, true);
        due.is("undo", x.undo(0), 0);
        due.is("undoing gives back KEPT numbers, FORGETTING or not", x.worth(0, 0, 0), 0);
        due.is("it still FORGETS", x.told(0, 5), 1);
        x.fork(0);
        due.is("in the other PLAN", x.forget(1, 0, false), 1);
        due.is("not in this", x.told(0, 5), 1);
        due.is("but in that", x.told(1, 5), 0);
    }
}
