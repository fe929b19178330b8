/** Promises 9 and 10: begin() and end(). */
public final class BatchTest {
    private static final Due due = new Due();

    public static void main(String[] args) {
        begins();
        beginsNowhere();
        beginsOnce();
        endsNowhere();
        endsOnce();
        anEmptyOne();
        stays();
        isTakenBack();
        latestFirst();
        undoingStops();
        justSixty();
        moreThanSixty();
        someBeforeAndManyIn();
        eachPlanHasItsOwn();
        due.finish();
    }

    private static void make(ScoreDifferences x) {
        x.object();
        x.rule(2, 0, 0, 1, 0);
        x.change(0, 0, 0, 3);
        x.change(0, 0, 0, 4);
    }

    private static ScoreDifferences made() {
        ScoreDifferences x = new ScoreDifferences();
        make(x);
        return x;
    }

    private static ScoreDifferences changed(int times) {
        ScoreDifferences x = new ScoreDifferences();
        x.object();
        x.rule(2, 0, 0, 1, 0);
        change(x, 1, times);
        return x;
    }

    private static void change(ScoreDifferences x, int first, int times) {
        for (int i = 0; i < times; i++) {
            x.change(0, 0, 0, first + i);
        }
    }

    private static void begins() {
        due.sentence("A BATCH begins in a PLAN: how many CHANGES are known in it.");
        due.is("none, in a PLAN with nothing", new ScoreDifferences().begin(0), 0);
        due.is("two", made().begin(0), 2);
        due.is("59", changed(59).begin(0), 59);
        due.is("60", changed(60).begin(0), 60);
        due.is("of 61", changed(61).begin(0), 60);
        ScoreDifferences x = made();
        x.undo(0);
        due.is("one undone", x.begin(0), 1);
        due.is("told(0, 4)", x.told(0, 4), 1);
        due.is("no CHANGE is made by it", x.told(0, 0), 2);
    }

    private static void beginsNowhere() {
        due.sentence("begin: NONE");
        Scene busy = new Scene(due, Scenes::busy);
        for (int plan : new int[] {-1, 2, 4, Integer.MIN_VALUE, Integer.MAX_VALUE}) {
            busy.still("begin(" + plan + ")", x -> x.begin(plan), -1);
        }
        due.is("the last PLAN", busy.start().begin(1), 2);
    }

    private static void beginsOnce() {
        due.sentence("begin: STATE: one is begun there.");
        Scene busy = new Scene(due, Scenes::busy);
        busy.still("begin(0)", x -> x.begin(0), -3);
        Scene empty = new Scene(due, x -> x.begin(0));
        empty.still("begin(0), nothing in it yet", x -> x.begin(0), -3);
        ScoreDifferences x = made();
        x.begin(0);
        x.end(0, true);
        due.is("behind its end", x.begin(0), 2);
    }

    private static void endsNowhere() {
        due.sentence("end: NONE");
        Scene busy = new Scene(due, Scenes::busy);
        for (int plan : new int[] {-1, 2, 4, Integer.MIN_VALUE, Integer.MAX_VALUE}) {
            busy.still("end(" + plan + ", true)", x -> x.end(plan, true), -1);
            busy.still("end(" + plan + ", false)", x -> x.end(plan, false), -1);
        }
    }

    private static void endsOnce() {
        due.sentence("end: STATE: none is begun.");
        Scene busy = new Scene(due, Scenes::busy);
        busy.still("end(1, true), begun in the other PLAN", x -> x.end(1, true), -3);
        busy.still("end(1, false)", x -> x.end(1, false), -3);
        Scene ended = new Scene(due, x -> {
            make(x);
            x.begin(0);
            x.change(0, 0, 0, 5);
            x.end(0, true);
        });
        ended.still("end(0, true), ended", x -> x.end(0, true), -3);
        ended.still("end(0, false), ended", x -> x.end(0, false), -3);
    }

    private static void anEmptyOne() {
        due.sentence("how many CHANGES were made in it and are known: none");
        for (boolean stay : new boolean[] {true, false}) {
            ScoreDifferences x = made();
            x.begin(0);
            due.is("end", x.end(0, stay), 0);
            due.is("told(0, 4)", x.told(0, 4), 0);
            due.is("LOAD", x.member(0, 0, 0), 4);
            due.is("known", x.told(0, 1), 2);
            due.is("COST", x.told(0, 2), 2);
            due.is("what was ahead of it can be undone", x.undo(0), 1);
        }
    }

    private static void stays() {
        due.sentence("how many CHANGES were made in it and are known (.. or stay)");
        ScoreDifferences x = made();
        x.begin(0);
        x.change(0, 0, 0, 5);
        x.change(0, 0, 0, 5);
        x.change(0, 0, 0, 1001);
        due.is("end, a refused one is none", x.end(0, true), 2);
        due.is("LOAD", x.member(0, 0, 0), 5);
        due.is("known", x.told(0, 1), 4);
        due.is("undo behind it", x.undo(0), 3);
        due.is("begin", x.begin(0), 3);
        due.is("nothing of the last one is in it", x.undo(0), -3);
        due.is("end", x.end(0, false), 0);
        due.is("LOAD", x.member(0, 0, 0), 5);
    }

    private static void isTakenBack() {
        due.sentence("with false all its CHANGES that are known are undone first: how many .. (that were undone");
        ScoreDifferences x = made();
        x.begin(0);
        x.change(0, 0, 0, 6);
        x.change(0, 0, 0, 8);
        x.undo(0);
        x.change(0, 0, 0, 9);
        due.is("COST ahead of it", x.told(0, 2), 6);
        due.is("end", x.end(0, false), 2);
        due.is("COST grows by UNDOING", x.told(0, 2), 8);
        due.is("LOAD", x.member(0, 0, 0), 4);
        due.is("SCORE", x.score(0, 0), 4);
        due.is("known", x.told(0, 1), 2);
        due.is("in all", x.told(0, 0), 5);
        due.is("told(0, 4)", x.told(0, 4), 0);
    }

    private static void latestFirst() {
        due.sentence("undone first, the latest first");
        ScoreDifferences x = Scenes.withObjects(3);
        x.rule(0, 3, 0, 1, 0);
        x.change(0, 0, 0, 5);
        x.begin(0);
        x.change(0, 1, 2, 0);
        x.change(0, 0, 0, 7);
        x.change(0, 2, 2, 1);
        x.change(0, 0, 0, 9);
        x.forget(0, 0, true);
        x.change(0, 0, 0, 8);
        due.is("COST ahead of it", x.told(0, 2), 1 + 1 + 2 + 1 + 3 + 3);
        due.is("end", x.end(0, false), 5);
        due.is("COST by the same steps back", x.told(0, 2), 11 + 10);
        due.is("BEFORE of 1", x.member(0, 1, 2), -1);
        due.is("BEFORE of 2", x.member(0, 2, 2), -1);
        due.is("LOAD of 0", x.member(0, 0, 0), 5);
        due.is("END of 2", x.member(0, 2, 3), 0);
        due.is("SCORE", x.score(0, 0), 5);
        due.is("check", x.check(0), -1);
    }

    private static void undoingStops() {
        due.sentence("(UNDOING in a BATCH goes no further back than to its beginning: STATE.)");
        Scene begun = new Scene(due, x -> {
            make(x);
            x.begin(0);
        });
        begun.still("undo at once", x -> x.undo(0), -3);
        Scene undone = new Scene(due, x -> {
            make(x);
            x.begin(0);
            x.change(0, 0, 0, 6);
            x.undo(0);
        });
        undone.still("undo behind the only one", x -> x.undo(0), -3);
        ScoreDifferences x = begun.start();
        x.change(0, 0, 0, 6);
        due.is("the only one", x.undo(0), 2);
        due.is("no further", x.undo(0), -3);
        due.is("LOAD", x.member(0, 0, 0), 4);
        due.is("end", x.end(0, false), 0);
        due.is("undo behind it", x.undo(0), 1);
    }

    private static void justSixty() {
        due.sentence("how many CHANGES were made in it and are known: 60, all there were");
        ScoreDifferences x = made();
        x.begin(0);
        change(x, 100, 59);
        due.is("known", x.told(0, 1), 60);
        due.is("end", x.end(0, false), 59);
        due.is("LOAD", x.member(0, 0, 0), 4);
        due.is("the one ahead of them is known", x.undo(0), 0);
        x = made();
        x.begin(0);
        change(x, 100, 60);
        due.is("known", x.told(0, 1), 60);
        due.is("end", x.end(0, false), 60);
        due.is("LOAD", x.member(0, 0, 0), 4);
        due.is("known", x.told(0, 1), 0);
        due.is("none ahead of them is known", x.undo(0), -3);
    }

    private static void moreThanSixty() {
        due.sentence("with false all its CHANGES that are known are undone: of more than 60 the latest");
        ScoreDifferences x = made();
        x.begin(0);
        change(x, 100, 61);
        due.is("end", x.end(0, false), 60);
        due.is("LOAD behind the first", x.member(0, 0, 0), 100);
        due.is("none", x.undo(0), -3);
        x = made();
        x.begin(0);
        change(x, 100, 65);
        for (int left = 59; left >= 0; left--) {
            due.is("undo", x.undo(0), left);
        }
        due.is("no more", x.undo(0), -3);
        due.is("end", x.end(0, false), 0);
        due.is("LOAD behind the fifth", x.member(0, 0, 0), 104);
        x = made();
        x.begin(0);
        change(x, 100, 130);
        due.is("those that stay", x.end(0, true), 60);
        due.is("are known behind it", x.undo(0), 59);
    }

    private static void someBeforeAndManyIn() {
        due.sentence("its CHANGES that are known: those ahead of it are none of its own");
        ScoreDifferences x = changed(60);
        due.is("begin", x.begin(0), 60);
        change(x, 500, 10);
        due.is("known", x.told(0, 1), 60);
        for (int i = 1; i <= 4; i++) {
            due.is("undo", x.undo(0), 60 - i);
        }
        due.is("end", x.end(0, false), 6);
        due.is("LOAD", x.member(0, 0, 0), 60);
        due.is("known", x.told(0, 1), 50);
    }

    private static void eachPlanHasItsOwn() {
        due.sentence("A BATCH begins in a PLAN: in that alone");
        ScoreDifferences x = made();
        x.fork(0);
        due.is("begin(0)", x.begin(0), 2);
        due.is("begin(1)", x.begin(1), 0);
        x.change(0, 0, 0, 6);
        x.change(1, 0, 0, 7);
        x.change(1, 0, 0, 8);
        due.is("end(1)", x.end(1, false), 2);
        due.is("LOAD in PLAN 1", x.member(1, 0, 0), 4);
        due.is("PLAN 0 has its own yet", x.told(0, 4), 1);
        due.is("end(0)", x.end(0, true), 1);
        due.is("LOAD in PLAN 0", x.member(0, 0, 0), 6);
    }
}
