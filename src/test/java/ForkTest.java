/** Promise 5: fork(). */
public final class ForkTest {
    private static final Due due = new Due();

    public static void main(String[] args) {
        copies();
        goTheirOwnWay();
        limits();
        due.finish();
    }

    private static ScoreDifferences made() {
        ScoreDifferences x = new ScoreDifferences();
        x.object();
        x.object();
        x.rule(0, 0, 0, 1, 0);
        x.rule(0, 3, 0, 1, 1);
        x.forget(0, 1, true);
        x.every(1);
        x.change(0, 0, 0, 5);
        x.change(0, 1, 2, 0);
        return x;
    }

    private static void copies() {
        ScoreDifferences x = made();
        x.begin(0);
        due.is("fork(0)", x.fork(0), 1);
        int[] members = {0, 0, 0, 5};
        for (int m = 0; m < 4; m++) {
            due.is("member " + m, x.member(1, 1, m), members[m]);
        }
        due.is("KEPT", x.worth(1, 0, 0), 5);
        due.is("KEPT by the one that FORGETS", x.worth(1, 1, 0), 0);
        due.is("FROM NOTHING", x.worth(1, 1, 1), 10);
        due.is("FOUND in the first", x.told(0, 3), 1);
        int[] told = {0, 0, 0, -1, 0, 1};
        for (int what = 0; what < told.length; what++) {
            due.is("told(1, " + what + ")", x.told(1, what), told[what]);
        }
        due.is("no CHANGE is known", x.undo(1), -3);
        due.is("a BATCH is not begun", x.end(1, false), -3);
        due.is("all(2)", x.all(2), 2);
    }

    private static void goTheirOwnWay() {
        ScoreDifferences x = made();
        x.fork(0);
        due.is("in the new one", x.change(1, 0, 0, 9), 3);
        due.is("the new one's END", x.member(1, 1, 3), 9);
        due.is("the first one's END", x.member(0, 1, 3), 5);
        due.is("CHANGES are counted from its coming", x.told(1, 0), 1);
        due.is("in the first", x.change(0, 1, 0, 1), 2);
        due.is("the new one's LOAD", x.member(1, 1, 0), 0);
        due.is("the new one's SCORE", x.score(1, 0), 9);
        due.is("undo in the new one", x.undo(1), 0);
        due.is("as it was forked", x.score(1, 0), 5);
        due.is("the first is left alone", x.score(0, 0), 6);
    }

    private static void limits() {
        ScoreDifferences x = new ScoreDifferences();
        due.is("fork(-1)", x.fork(-1), -1);
        due.is("fork(1)", x.fork(1), -1);
        due.is("fork(0)", x.fork(0), 1);
        due.is("fork(1)", x.fork(1), 2);
        due.is("fork(3)", x.fork(3), -1);
        due.is("fork(0)", x.fork(0), 3);
        due.is("a fifth", x.fork(3), -4);
        due.is("NONE stands ahead of FULL", x.fork(4), -1);
        due.is("all(2)", x.all(2), 4);
    }
}
