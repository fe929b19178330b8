/** Promise 8: undo(), and the latest 60 CHANGES that a PLAN knows. */
public final class UndoTest {
    private static final Due due = new Due();

    public static void main(String[] args) {
        takesBack();
        asAheadOfIt();
        none();
        noneIsKnown();
        fiftyNine();
        sixty();
        sixtyOne();
        roundAndRound();
        againBehindUndoing();
        isNotAgainKnown();
        refusedIsNotKnown();
        isNoCountedChange();
        costsToo();
        due.finish();
    }

    private static ScoreDifferences changed(int times) {
        ScoreDifferences x = Scenes.withObjects(1);
        x.rule(2, 0, 0, 1, 0);
        for (int i = 1; i <= times; i++) {
            x.change(0, 0, 0, i);
        }
        return x;
    }

    private static void takesBack() {
        due.sentence("UNDOING: how many CHANGES are known then");
        ScoreDifferences x = Scenes.withObjects(2);
        x.rule(0, 3, 0, 1, 0);
        x.change(0, 0, 0, 5);
        x.change(0, 1, 2, 0);
        x.change(0, 0, 0, 7);
        x.change(0, 0, 1, 3);
        due.is("undo GROUP", x.undo(0), 3);
        due.is("GROUP", x.member(0, 0, 1), 0);
        due.is("undo LOAD", x.undo(0), 2);
        due.is("END follows", x.member(0, 1, 3), 5);
        due.is("SCORE", x.score(0, 0), 10);
        due.is("undo BEFORE", x.undo(0), 1);
        due.is("BEFORE", x.member(0, 1, 2), -1);
        due.is("END follows", x.member(0, 1, 3), 0);
        due.is("undo LOAD", x.undo(0), 0);
        due.is("SCORE", x.score(0, 0), 0);
        due.is("check", x.check(0), -1);
    }

    private static void asAheadOfIt() {
        due.sentence("all MEMBERS, and what RULES are KEPT at, are as ahead of it");
        ScoreDifferences x = changed(2);
        x.forget(0, 0, true);
        x.change(0, 0, 0, 10);
        x.forget(0, 0, false);
        x.change(0, 0, 0, 13);
        due.is("KEPT", x.worth(0, 0, 0), 5);
        x.mend(0, 0);
        due.is("undo", x.undo(0), 3);
        due.is("as ahead of the fourth", x.worth(0, 0, 0), 2);
        due.is("LOAD", x.member(0, 0, 0), 10);
        due.is("undo", x.undo(0), 2);
        due.is("the one that was forgotten", x.worth(0, 0, 0), 2);
        due.is("LOAD", x.member(0, 0, 0), 2);
        due.is("check", x.check(0), -1);
        x.forget(0, 0, true);
        due.is("undo", x.undo(0), 1);
        due.is("as ahead of the second, though it FORGETS now", x.worth(0, 0, 0), 1);
    }

    private static void none() {
        due.sentence("undo: NONE");
        Scene busy = new Scene(due, Scenes::busy);
        for (int plan : new int[] {-1, 2, 4, Integer.MIN_VALUE, Integer.MAX_VALUE}) {
            busy.still("undo(" + plan + ")", x -> x.undo(plan), -1);
        }
        due.is("the last PLAN", busy.start().undo(1), 1);
    }

    private static void noneIsKnown() {
        due.sentence("STATE: none is known.");
        Scene young = new Scene(due, Scenes::young);
        young.still("undo(0), no CHANGE yet", x -> x.undo(0), -3);
        Scene undone = new Scene(due, x -> {
            Scenes.young(x);
            x.change(0, 0, 0, 3);
            x.change(0, 0, 0, 4);
            x.undo(0);
            x.undo(0);
        });
        undone.still("undo(0), all undone", x -> x.undo(0), -3);
        Scene forked = new Scene(due, x -> {
            Scenes.young(x);
            x.change(0, 0, 0, 3);
            x.fork(0);
        });
        forked.still("undo(1), a new PLAN", x -> x.undo(1), -3);
        due.is("undo(0), one is known", forked.start().undo(0), 0);
    }

    private static void known(int changes, int known) {
        ScoreDifferences x = changed(changes);
        due.is(changes + " CHANGES, known", x.told(0, 1), known);
        due.is("in all", x.told(0, 0), changes);
        for (int left = known - 1; left >= 0; left--) {
            due.is("undo", x.undo(0), left);
            due.is("LOAD", x.member(0, 0, 0), changes - known + left);
            due.is("SCORE", x.score(0, 0), changes - known + left);
        }
        due.is("no more", x.undo(0), -3);
        due.is("LOAD", x.member(0, 0, 0), changes - known);
        due.is("known", x.told(0, 1), 0);
        due.is("check", x.check(0), -1);
    }

    private static void fiftyNine() {
        due.sentence("A PLAN knows its latest 60 CHANGES: fewer");
        known(1, 1);
        known(59, 59);
    }

    private static void sixty() {
        due.sentence("A PLAN knows its latest 60 CHANGES: just so many");
        known(60, 60);
    }

    private static void sixtyOne() {
        due.sentence("A PLAN knows its latest 60 CHANGES: more");
        known(61, 60);
        known(75, 60);
        Scene all = new Scene(due, x -> {
            Scenes.objects(x, 3);
            Scenes.rules(x);
            for (int i = 0; i < 61; i++) {
                x.change(0, i % 3, 0, i);
            }
            for (int i = 0; i < 60; i++) {
                x.undo(0);
            }
        });
        all.still("the 61st is not undone", x -> x.undo(0), -3);
    }

    private static void roundAndRound() {
        due.sentence("A PLAN knows its latest 60 CHANGES: however many there were");
        known(119, 60);
        known(120, 60);
        known(121, 60);
        known(181, 60);
        ScoreDifferences x = changed(90);
        for (int i = 0; i < 45; i++) {
            x.undo(0);
        }
        due.is("LOAD", x.member(0, 0, 0), 45);
        for (int i = 0; i < 50; i++) {
            x.change(0, 0, 0, 500 + i);
        }
        due.is("known", x.told(0, 1), 60);
        for (int left = 59; left >= 0; left--) {
            due.is("undo", x.undo(0), left);
            due.is("LOAD", x.member(0, 0, 0), left > 10 ? 500 + left - 11 : 35 + left);
        }
        due.is("no more", x.undo(0), -3);
    }

    private static void againBehindUndoing() {
        due.sentence("latest 60 CHANGES that were not undone");
        ScoreDifferences x = changed(60);
        due.is("undo", x.undo(0), 59);
        x.change(0, 0, 0, 100);
        due.is("known", x.told(0, 1), 60);
        x.change(0, 0, 0, 101);
        due.is("one too many", x.told(0, 1), 60);
        due.is("undo", x.undo(0), 59);
        due.is("LOAD", x.member(0, 0, 0), 100);
        due.is("undo", x.undo(0), 58);
        due.is("LOAD, not the undone 60", x.member(0, 0, 0), 59);
        for (int left = 57; left >= 0; left--) {
            due.is("undo", x.undo(0), left);
        }
        due.is("LOAD", x.member(0, 0, 0), 1);
        due.is("none", x.undo(0), -3);
    }

    /** The document could also be read so that the first of 61 is known again once the last is undone. */
    private static void isNotAgainKnown() {
        due.sentence("A PLAN knows its latest 60 CHANGES: one that it knows no more does not come back");
        ScoreDifferences x = changed(61);
        due.is("undo", x.undo(0), 59);
        due.is("known", x.told(0, 1), 59);
    }

    private static void refusedIsNotKnown() {
        due.sentence("What is refused changes nothing: no CHANGE is known of it");
        ScoreDifferences x = changed(60);
        x.change(0, 0, 0, 1001);
        x.attempt(0, 0, 0, 9, 0);
        due.is("known", x.told(0, 1), 60);
        due.is("in all", x.told(0, 0), 60);
        for (int left = 59; left >= 0; left--) {
            due.is("undo", x.undo(0), left);
        }
        due.is("LOAD", x.member(0, 0, 0), 0);
    }

    private static void isNoCountedChange() {
        due.sentence("(CHANGES in it since it came are counted, UNDOING is none)");
        ScoreDifferences x = changed(3);
        x.forget(0, 0, true);
        x.every(2);
        x.undo(0);
        due.is("CHANGES in all", x.told(0, 0), 3);
        due.is("not checked by UNDOING", x.told(0, 3), -1);
        x.change(0, 0, 0, 9);
        due.is("the fourth is checked", x.told(0, 3), 0);
        x.undo(0);
        due.is("FOUND stays", x.told(0, 3), 0);
        due.is("though all is right", x.check(0), -1);
    }

    private static void costsToo() {
        due.sentence("The COST of a PLAN grows, by a CHANGE (also one by UNDOING)");
        ScoreDifferences x = Scenes.withObjects(2);
        x.rule(0, 3, 0, 1, 0);
        x.change(0, 0, 0, 5);
        x.change(0, 1, 2, 0);
        x.change(0, 0, 0, 7);
        x.change(0, 0, 1, 3);
        x.change(0, 0, 1, 3);
        int[] costs = {4, 4, 6, 7, 8};
        for (int i = 0; i < costs.length; i++) {
            x.undo(0);
            due.is("COST behind undo " + i, x.told(0, 2), costs[i]);
        }
        x.undo(0);
        due.is("COST behind STATE", x.told(0, 2), 8);
        x.forget(0, 0, true);
        x.change(0, 0, 0, 1);
        due.is("COST of a RULE that FORGETS", x.told(0, 2), 9);
        x.undo(0);
        due.is("and by UNDOING", x.told(0, 2), 10);
    }
}
