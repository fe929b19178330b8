/** Promise 5: fork(). */
public final class ForkTest {
    private static final Due due = new Due();

    public static void main(String[] args) {
        fourPlans();
        none();
        firstRefusalNamed();
        isAsTheOther();
        whatItHasNot();
        goTheirOwnWay();
        emptyOne();
        due.finish();
    }

    private static ScoreDifferences made() {
        ScoreDifferences x = Scenes.withObjects(2);
        x.rule(0, 0, 0, 1, 0);
        x.rule(0, 3, 0, 1, 1);
        x.forget(0, 1, true);
        x.every(1);
        x.change(0, 0, 0, 5);
        x.change(0, 1, 2, 0);
        return x;
    }

    private static void fourPlans() {
        due.sentence("PLANS 0 .. 3; FULL");
        ScoreDifferences x = new ScoreDifferences();
        for (int plan = 1; plan <= 3; plan++) {
            due.is("no such PLAN yet", x.told(plan, 0), -1);
            due.is("fork(" + (plan - 1) + ")", x.fork(plan - 1), plan);
            due.is("all(2)", x.all(2), plan + 1);
            due.is("there it is", x.told(plan, 0), 0);
        }
        Scene full = new Scene(due, Scenes::full);
        for (int i = 0; i < 4; i++) {
            int plan = i;
            full.still("fork(" + plan + "), a fifth", y -> y.fork(plan), -4);
        }
    }

    private static void none() {
        due.sentence("A new PLAN is as one that is there: .. NONE");
        Scene busy = new Scene(due, Scenes::busy);
        int[] wrong = {-1, 2, 3, 4, Integer.MIN_VALUE, Integer.MAX_VALUE};
        for (int plan : wrong) {
            busy.still("fork(" + plan + ")", x -> x.fork(plan), -1);
        }
        due.is("the last that is there", busy.start().fork(1), 2);
    }

    private static void firstRefusalNamed() {
        due.sentence("fork: NONE; FULL. (both: the first that is named)");
        Scene full = new Scene(due, Scenes::full);
        full.still("fork(4)", x -> x.fork(4), -1);
        full.still("fork(-1)", x -> x.fork(-1), -1);
    }

    private static void isAsTheOther() {
        due.sentence("A new PLAN is as one that is there (MEMBERS, KEPT numbers, what FORGETS;");
        ScoreDifferences x = made();
        due.is("fork(0)", x.fork(0), 1);
        int[] members = {0, 0, 0, 5};
        for (int m = 0; m < 4; m++) {
            due.is("member " + m, x.member(1, 1, m), members[m]);
        }
        due.is("KEPT", x.worth(1, 0, 0), 5);
        due.is("KEPT by the one that FORGETS", x.worth(1, 1, 0), 0);
        due.is("FROM NOTHING", x.worth(1, 1, 1), 10);
        due.is("one FORGETS", x.told(1, 5), 1);
        due.is("which", x.forget(1, 1, true), 1);
        due.is("FALSE is what was FALSE", x.check(1), 1);
        ScoreDifferences full = new ScoreDifferences();
        Scenes.full(full);
        due.is("the last object's GROUP in PLAN 3", full.member(3, 19, 1), 19);
    }

    private static void whatItHasNot() {
        due.sentence("no CHANGES, COST 0, FOUND NONE): its number.");
        ScoreDifferences x = made();
        x.begin(0);
        due.is("FOUND in the first", x.told(0, 3), 1);
        due.is("COST in the first", x.told(0, 2), 3);
        x.fork(0);
        int[] told = {0, 0, 0, -1, 0, 1};
        for (int what = 0; what < told.length; what++) {
            due.is("told(1, " + what + ")", x.told(1, what), told[what]);
        }
        due.is("no CHANGE is known", x.undo(1), -3);
        due.is("a BATCH is not begun", x.end(1, false), -3);
        due.is("the first has its own yet", x.told(0, 0), 2);
        due.is("and its BATCH", x.told(0, 4), 1);
    }

    private static void goTheirOwnWay() {
        due.sentence("In each PLAN each RULE is KEPT at a number; A CHANGE gives one MEMBER .. a number in a PLAN");
        ScoreDifferences x = made();
        x.fork(0);
        due.is("in the new one", x.change(1, 0, 0, 9), 3);
        due.is("the new one's END", x.member(1, 1, 3), 9);
        due.is("the first one's END", x.member(0, 1, 3), 5);
        due.is("CHANGES are counted from its coming", x.told(1, 0), 1);
        due.is("in the first", x.change(0, 1, 0, 1), 2);
        due.is("the new one's LOAD", x.member(1, 1, 0), 0);
        due.is("the new one's SCORE", x.score(1, 0), 9);
        due.is("undo in the new one", x.undo(1), 0);
        due.is("as it was forked", x.score(1, 0), 5);
        due.is("the first is left alone", x.score(0, 0), 6);
        due.is("the first knows its own", x.told(0, 1), 3);
    }

    private static void emptyOne() {
        due.sentence("PLAN 0 is there at first: it may be forked with nothing in it");
        ScoreDifferences x = new ScoreDifferences();
        due.is("fork(0)", x.fork(0), 1);
        due.is("score(1, 0)", x.score(1, 0), 0);
        due.is("member(1, 0, 0)", x.member(1, 0, 0), -1000000);
        due.is("change(1, 0, 0, 0)", x.change(1, 0, 0, 0), -1);
        due.is("check(1)", x.check(1), -1);
    }
}
