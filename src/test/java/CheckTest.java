/** Promises 14, 15 and 16: check(), every() and mend(). */
public final class CheckTest {
    private static final Due due = new Due();

    public static void main(String[] args) {
        firstFalse();
        everyNumbers();
        checkedByItself();
        countedInEachPlan();
        mended();
        mendedAndUndone();
        due.finish();
    }

    private static ScoreDifferences made() {
        ScoreDifferences x = new ScoreDifferences();
        x.object();
        x.rule(0, 0, 0, 1, 0);
        x.rule(0, 0, 5, 1, 0);
        x.rule(2, 0, 0, 1, 1);
        return x;
    }

    private static void firstFalse() {
        ScoreDifferences x = made();
        due.is("none", x.check(0), -1);
        due.is("no such PLAN", x.check(1), -1);
        due.is("no such PLAN", x.check(-1), -1);
        x.forget(0, 1, true);
        x.forget(0, 2, true);
        due.is("to FORGET is not to be FALSE", x.check(0), -1);
        x.change(0, 0, 0, 4);
        due.is("the second is still right", x.check(0), 2);
        x.change(0, 0, 0, 6);
        due.is("the first FALSE one", x.check(0), 1);
        due.is("check() is not FOUND", x.told(0, 3), -1);
        x.change(0, 0, 0, 0);
        due.is("right again by chance", x.check(0), -1);
    }

    private static void everyNumbers() {
        ScoreDifferences x = new ScoreDifferences();
        due.is("every(100)", x.every(100), 0);
        due.is("every(101)", x.every(101), -1);
        due.is("every(-1)", x.every(-1), -1);
        due.is("all(3)", x.all(3), 100);
        due.is("every(0)", x.every(0), 100);
        due.is("all(3)", x.all(3), 0);
    }

    private static void checkedByItself() {
        ScoreDifferences x = made();
        x.forget(0, 2, true);
        x.change(0, 0, 0, 1);
        due.is("EVERY 0", x.told(0, 3), -1);
        x.every(3);
        due.is("not at once", x.told(0, 3), -1);
        x.change(0, 0, 0, 2);
        due.is("the second", x.told(0, 3), -1);
        x.change(0, 0, 9, 2);
        due.is("a refused one does not count", x.told(0, 3), -1);
        x.change(0, 0, 0, 2);
        due.is("the third, though it changed no MEMBER", x.told(0, 3), 2);
        x.mend(0, 2);
        due.is("FOUND stays", x.told(0, 3), 2);
        x.forget(0, 2, false);
        x.change(0, 0, 0, 3);
        x.change(0, 0, 0, 4);
        due.is("until the next check", x.told(0, 3), 2);
        x.change(0, 0, 0, 5);
        due.is("the sixth", x.told(0, 3), -1);
        x.forget(0, 0, true);
        x.every(0);
        x.change(0, 0, 0, 7);
        due.is("EVERY 0 again", x.told(0, 3), -1);
        x.every(4);
        x.change(0, 0, 0, 8);
        due.is("the eighth", x.told(0, 3), 0);
    }

    private static void countedInEachPlan() {
        ScoreDifferences x = made();
        x.forget(0, 0, true);
        x.every(2);
        x.change(0, 0, 0, 1);
        x.fork(0);
        x.change(1, 0, 0, 2);
        due.is("the first of that PLAN", x.told(1, 3), -1);
        x.change(0, 0, 0, 2);
        due.is("the second of this", x.told(0, 3), 0);
        due.is("that one was not checked", x.told(1, 3), -1);
        x.change(1, 0, 0, 3);
        due.is("the second of that", x.told(1, 3), 0);
    }

    private static void mended() {
        ScoreDifferences x = made();
        int[][] wrong = {{-1, 0}, {1, 0}, {0, -1}, {0, 3}, {0, 12}};
        for (int[] w : wrong) {
            due.is("no such thing", x.mend(w[0], w[1]), -1);
        }
        due.is("it was right", x.mend(0, 0), 0);
        x.forget(0, 0, true);
        x.forget(0, 2, true);
        x.change(0, 0, 0, 4);
        due.is("it was FALSE", x.mend(0, 0), 1);
        due.is("KEPT", x.worth(0, 0, 0), 4);
        due.is("it still FORGETS", x.forget(0, 0, true), 1);
        due.is("the other is FALSE yet", x.check(0), 2);
        due.is("again", x.mend(0, 0), 0);
    }

    private static void mendedAndUndone() {
        ScoreDifferences x = made();
        x.forget(0, 0, true);
        x.change(0, 0, 0, 4);
        x.change(0, 0, 0, 6);
        x.mend(0, 0);
        due.is("known", x.told(0, 1), 2);
        x.change(0, 0, 0, 9);
        x.undo(0);
        due.is("as mended", x.worth(0, 0, 0), 6);
        x.undo(0);
        due.is("as ahead of the second", x.worth(0, 0, 0), 0);
        due.is("which was FALSE", x.check(0), 0);
    }
}
