/** Promises 1 and 2: a new object, and object(). */
public final class NewAndObjectTest {
    private static final Due due = new Due();

    public static void main(String[] args) {
        aNewOne();
        fortyObjects();
        noneBehindAChange();
        noneBesideASecondPlan();
        whatAnObjectAddsToRules();
        due.finish();
    }

    private static void aNewOne() {
        ScoreDifferences x = new ScoreDifferences();
        int[] first = {0, 0, 1, 0, 0};
        for (int what = 0; what < first.length; what++) {
            due.is("new: all(" + what + ")", x.all(what), first[what]);
        }
        int[] plan = {0, 0, 0, -1, 0, 0};
        for (int what = 0; what < plan.length; what++) {
            due.is("new: told(0, " + what + ")", x.told(0, what), plan[what]);
        }
        due.is("new: told(1, 0)", x.told(1, 0), -1);
        due.is("new: score(0, 2)", x.score(0, 2), 0);
        due.is("new: member(0, 0, 0)", x.member(0, 0, 0), -1000000);
        due.is("new: check(0)", x.check(0), -1);
        due.is("new: every(0)", x.every(0), 0);
        x.object();
        due.is("two have nothing in common", new ScoreDifferences().all(0), 0);
    }

    private static void fortyObjects() {
        ScoreDifferences x = new ScoreDifferences();
        for (int o = 0; o < 40; o++) {
            due.is("object() " + o, x.object(), o);
        }
        int[] first = {0, 0, -1, 0};
        for (int m = 0; m < 4; m++) {
            due.is("last object's member " + m, x.member(0, 39, m), first[m]);
        }
        due.is("a 41st", x.object(), -4);
        due.is("all(0)", x.all(0), 40);
        x.change(0, 0, 0, 1);
        due.is("STATE stands ahead of FULL", x.object(), -3);
    }

    private static void noneBehindAChange() {
        ScoreDifferences x = new ScoreDifferences();
        x.object();
        x.change(0, 0, 0, 1001);
        x.attempt(0, 0, 0, 5, 0);
        x.begin(0);
        due.is("a refused CHANGE and an attempt are none", x.object(), 1);
        x.change(0, 0, 0, 0);
        x.undo(0);
        due.is("object() behind an undone CHANGE", x.object(), -3);
        due.is("all(0)", x.all(0), 2);
    }

    private static void noneBesideASecondPlan() {
        ScoreDifferences x = new ScoreDifferences();
        x.object();
        x.fork(0);
        due.is("object() with two PLANS", x.object(), -3);
        due.is("all(0)", x.all(0), 1);
    }

    private static void whatAnObjectAddsToRules() {
        ScoreDifferences x = new ScoreDifferences();
        x.rule(0, 0, -5, 2, 0);
        x.rule(1, 0, -7, 1, 1);
        x.rule(3, 2, 0, 3, 2);
        due.is("each above, no object", x.score(0, 0), 0);
        due.is("sum above, no object", x.score(0, 1), 7);
        x.forget(0, 0, true);
        x.object();
        x.object();
        x.object();
        due.is("each above, also as it FORGETS", x.score(0, 0), 30);
        due.is("sum above", x.score(0, 1), 7);
        due.is("equal BEFORE", x.score(0, 2), 9);
        due.is("no RULE is FALSE", x.check(0), -1);
        due.is("no COST", x.told(0, 2), 0);
    }
}
