/** Promise 4: forget(). */
public final class ForgetTest {
    private static final Due due = new Due();

    public static void main(String[] args) {
        whatItWas();
        none();
        stays();
        thereAlone();
        thenAlone();
        undoingIsNoForgetting();
        due.finish();
    }

    private static ScoreDifferences made() {
        ScoreDifferences x = Scenes.withObjects(1);
        x.rule(0, 0, 0, 1, 0);
        x.rule(0, 0, 0, 1, 0);
        return x;
    }

    private static void whatItWas() {
        due.sentence("A RULE FORGETS in a PLAN from now on, or not: what it was (1, 0).");
        ScoreDifferences x = made();
        due.is("not at first, and not from now on", x.forget(0, 1, false), 0);
        due.is("it does from now on", x.forget(0, 1, true), 0);
        due.is("again", x.forget(0, 1, true), 1);
        due.is("one FORGETS", x.told(0, 5), 1);
        due.is("the other does not", x.forget(0, 0, false), 0);
        due.is("not any more", x.forget(0, 1, false), 1);
        due.is("still not", x.forget(0, 1, false), 0);
        due.is("none FORGETS", x.told(0, 5), 0);
        ScoreDifferences full = new ScoreDifferences();
        Scenes.full(full);
        due.is("the last RULE of the last PLAN", full.forget(3, 11, true), 0);
        due.is("that one FORGETS", full.told(3, 5), 1);
    }

    private static void none() {
        due.sentence("forget: NONE.");
        Scene busy = new Scene(due, Scenes::busy);
        int[][] wrong = {{-1, 0}, {2, 0}, {0, -1}, {0, 6}, {0, 12}, {4, 0},
            {Integer.MIN_VALUE, 0}, {0, Integer.MAX_VALUE}};
        for (int[] w : wrong) {
            busy.still("forget(" + w[0] + ", " + w[1] + ", true)", x -> x.forget(w[0], w[1], true), -1);
            busy.still("forget(" + w[0] + ", " + w[1] + ", false)", x -> x.forget(w[0], w[1], false), -1);
        }
        Scene full = new Scene(due, Scenes::full);
        full.still("forget(4, 0, true)", x -> x.forget(4, 0, true), -1);
        full.still("forget(0, 12, true)", x -> x.forget(0, 12, true), -1);
    }

    private static void stays() {
        due.sentence("one that FORGETS stays");
        ScoreDifferences x = made();
        x.forget(0, 0, true);
        due.is("change", x.change(0, 0, 0, 7), 2);
        due.is("the one that FORGETS stays", x.worth(0, 0, 0), 0);
        due.is("the other follows", x.worth(0, 1, 0), 7);
        due.is("its SCORE", x.score(0, 0), 7);
        due.is("COST is paid for both", x.told(0, 2), 2);
    }

    private static void thereAlone() {
        due.sentence("Each RULE that does not FORGET (there, ..");
        ScoreDifferences x = made();
        x.fork(0);
        x.forget(1, 0, true);
        due.is("none FORGETS in PLAN 0", x.told(0, 5), 0);
        due.is("one in PLAN 1", x.told(1, 5), 1);
        x.change(0, 0, 0, 4);
        x.change(1, 0, 0, 4);
        due.is("it follows in PLAN 0", x.worth(0, 0, 0), 4);
        due.is("it stays in PLAN 1", x.worth(1, 0, 0), 0);
    }

    private static void thenAlone() {
        due.sentence("Each RULE that does not FORGET (.. then)");
        ScoreDifferences x = made();
        x.change(0, 0, 0, 2);
        x.forget(0, 0, true);
        due.is("what was KEPT is not forgotten", x.worth(0, 0, 0), 2);
        x.change(0, 0, 0, 7);
        x.forget(0, 0, false);
        due.is("what was missed does not come after", x.worth(0, 0, 0), 2);
        x.change(0, 0, 0, 3);
        due.is("differences go on from what was KEPT", x.worth(0, 0, 0), -2);
        due.is("FROM NOTHING", x.worth(0, 0, 1), 3);
    }

    private static void undoingIsNoForgetting() {
        due.sentence("UNDOING ..: all MEMBERS, and what RULES are KEPT at, are as ahead of it (what FORGETS is not)");
        ScoreDifferences x = made();
        x.change(0, 0, 0, 4);
        x.forget(0, 0, true);
        due.is("undo", x.undo(0), 0);
        due.is("KEPT as ahead, though it FORGETS", x.worth(0, 0, 0), 0);
        due.is("it still FORGETS", x.told(0, 5), 1);
    }
}
