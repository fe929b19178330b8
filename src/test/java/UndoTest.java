/** Promise 8: undo(), and the latest 60 CHANGES that a PLAN knows. */
public final class UndoTest {
    private static final Due due = new Due();

    public static void main(String[] args) {
        takesBack();
        sixty();
        againBehindUndoing();
        isNoCountedChange();
        due.finish();
    }

    private static void takesBack() {
        ScoreDifferences x = new ScoreDifferences();
        x.object();
        x.object();
        x.rule(0, 3, 0, 1, 0);
        due.is("none is known", x.undo(0), -3);
        due.is("no such PLAN", x.undo(1), -1);
        due.is("no such PLAN", x.undo(-1), -1);
        x.change(0, 0, 0, 5);
        x.change(0, 1, 2, 0);
        x.change(0, 0, 0, 7);
        x.change(0, 0, 1, 3);
        due.is("COST", x.told(0, 2), 4);
        due.is("undo GROUP", x.undo(0), 3);
        due.is("GROUP", x.member(0, 0, 1), 0);
        due.is("no COST", x.told(0, 2), 4);
        due.is("undo LOAD", x.undo(0), 2);
        due.is("END follows", x.member(0, 1, 3), 5);
        due.is("SCORE", x.score(0, 0), 10);
        due.is("COST grows", x.told(0, 2), 6);
        due.is("undo BEFORE", x.undo(0), 1);
        due.is("BEFORE", x.member(0, 1, 2), -1);
        due.is("undo LOAD", x.undo(0), 0);
        due.is("SCORE", x.score(0, 0), 0);
        due.is("COST", x.told(0, 2), 8);
        due.is("no more", x.undo(0), -3);
        due.is("COST as it was", x.told(0, 2), 8);
    }

    private static ScoreDifferences changed(int times) {
        ScoreDifferences x = new ScoreDifferences();
        x.object();
        x.rule(2, 0, 0, 1, 0);
        for (int i = 1; i <= times; i++) {
            x.change(0, 0, 0, i);
        }
        return x;
    }

    private static void sixty() {
        ScoreDifferences x = changed(75);
        due.is("known", x.told(0, 1), 60);
        due.is("in all", x.told(0, 0), 75);
        for (int left = 59; left >= 0; left--) {
            due.is("undo", x.undo(0), left);
            due.is("LOAD", x.member(0, 0, 0), 15 + left);
            due.is("SCORE", x.score(0, 0), 15 + left);
        }
        due.is("the 61st is not known", x.undo(0), -3);
        due.is("LOAD", x.member(0, 0, 0), 15);
    }

    private static void againBehindUndoing() {
        ScoreDifferences x = changed(60);
        due.is("undo", x.undo(0), 59);
        x.change(0, 0, 0, 100);
        due.is("known", x.told(0, 1), 60);
        x.change(0, 0, 0, 101);
        due.is("one too many", x.told(0, 1), 60);
        for (int left = 59; left >= 0; left--) {
            due.is("undo", x.undo(0), left);
        }
        due.is("LOAD", x.member(0, 0, 0), 1);
        due.is("none", x.undo(0), -3);
    }

    private static void isNoCountedChange() {
        ScoreDifferences x = changed(3);
        x.forget(0, 0, true);
        x.every(2);
        x.undo(0);
        due.is("CHANGES in all", x.told(0, 0), 3);
        due.is("not checked by UNDOING", x.told(0, 3), -1);
        x.change(0, 0, 0, 9);
        due.is("the fourth is checked", x.told(0, 3), 0);
        x.undo(0);
        due.is("FOUND stays", x.told(0, 3), 0);
        due.is("though all is right", x.check(0), -1);
    }
}
