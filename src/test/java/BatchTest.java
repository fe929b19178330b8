/** Promises 9 and 10: begin() and end(). */
public final class BatchTest {
    private static final Due due = new Due();

    public static void main(String[] args) {
        beginsOnce();
        stays();
        isTakenBack();
        undoingStops();
        moreThanSixty();
        someBeforeAndManyIn();
        eachPlanHasItsOwn();
        due.finish();
    }

    private static ScoreDifferences made() {
        ScoreDifferences x = new ScoreDifferences();
        x.object();
        x.rule(2, 0, 0, 1, 0);
        x.change(0, 0, 0, 3);
        x.change(0, 0, 0, 4);
        return x;
    }

    private static void beginsOnce() {
        ScoreDifferences x = made();
        due.is("begin(1)", x.begin(1), -1);
        due.is("begin(-1)", x.begin(-1), -1);
        due.is("end(1)", x.end(1, true), -1);
        due.is("end(-1)", x.end(-1, false), -1);
        due.is("none is begun", x.end(0, true), -3);
        due.is("none is begun", x.end(0, false), -3);
        due.is("begin", x.begin(0), 2);
        due.is("told(0, 4)", x.told(0, 4), 1);
        due.is("begin again", x.begin(0), -3);
        due.is("end of an empty one", x.end(0, false), 0);
        due.is("told(0, 4)", x.told(0, 4), 0);
        due.is("LOAD", x.member(0, 0, 0), 4);
        due.is("begin anew", x.begin(0), 2);
    }

    private static void stays() {
        ScoreDifferences x = made();
        x.begin(0);
        x.change(0, 0, 0, 5);
        x.change(0, 0, 0, 5);
        x.change(0, 0, 0, 5000);
        due.is("end", x.end(0, true), 2);
        due.is("LOAD", x.member(0, 0, 0), 5);
        due.is("known", x.told(0, 1), 4);
        due.is("undo behind it", x.undo(0), 3);
        due.is("begin", x.begin(0), 3);
        due.is("nothing of the last one is in it", x.undo(0), -3);
        due.is("end", x.end(0, false), 0);
        due.is("LOAD", x.member(0, 0, 0), 5);
    }

    private static void isTakenBack() {
        ScoreDifferences x = made();
        x.begin(0);
        x.change(0, 0, 0, 6);
        x.change(0, 0, 0, 8);
        x.undo(0);
        x.change(0, 0, 0, 9);
        due.is("COST ahead of it", x.told(0, 2), 6);
        due.is("end", x.end(0, false), 2);
        due.is("COST grows by UNDOING", x.told(0, 2), 8);
        due.is("LOAD", x.member(0, 0, 0), 4);
        due.is("SCORE", x.score(0, 0), 4);
        due.is("known", x.told(0, 1), 2);
        due.is("in all", x.told(0, 0), 5);
    }

    private static void undoingStops() {
        ScoreDifferences x = made();
        x.begin(0);
        due.is("undo at once", x.undo(0), -3);
        x.change(0, 0, 0, 6);
        due.is("undo", x.undo(0), 2);
        due.is("undo", x.undo(0), -3);
        due.is("LOAD", x.member(0, 0, 0), 4);
        due.is("end", x.end(0, false), 0);
        due.is("undo behind it", x.undo(0), 1);
    }

    private static void moreThanSixty() {
        ScoreDifferences x = made();
        x.begin(0);
        for (int i = 0; i < 65; i++) {
            x.change(0, 0, 0, 100 + i);
        }
        due.is("end", x.end(0, false), 60);
        due.is("LOAD behind the fifth", x.member(0, 0, 0), 104);
        due.is("known", x.told(0, 1), 0);
        due.is("none", x.undo(0), -3);
    }

    private static void someBeforeAndManyIn() {
        ScoreDifferences x = made();
        for (int i = 0; i < 58; i++) {
            x.change(0, 0, 0, i);
        }
        due.is("begin", x.begin(0), 60);
        for (int i = 0; i < 10; i++) {
            x.change(0, 0, 0, 500 + i);
        }
        due.is("known", x.told(0, 1), 60);
        for (int i = 1; i <= 4; i++) {
            due.is("undo", x.undo(0), 60 - i);
        }
        due.is("end", x.end(0, false), 6);
        due.is("LOAD", x.member(0, 0, 0), 57);
        due.is("known", x.told(0, 1), 50);
    }

    private static void eachPlanHasItsOwn() {
        ScoreDifferences x = made();
        x.begin(0);
        x.fork(0);
        due.is("begin(1)", x.begin(1), 0);
        x.change(0, 0, 0, 6);
        due.is("end(1)", x.end(1, false), 0);
        due.is("end(0)", x.end(0, true), 1);
        due.is("LOAD", x.member(0, 0, 0), 6);
    }
}
