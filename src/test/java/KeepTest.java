/** Promises 17, 18 and 19: keep(), kept() and then(). */
public final class KeepTest {
    private static final Due due = new Due();
    private static final int LEAST = Integer.MIN_VALUE;
    private static final int MOST = Integer.MAX_VALUE;

    public static void main(String[] args) {
        twenty();
        keepNone();
        firstRefusalNamed();
        asThen();
        changesNothing();
        ofNothing();
        noSuchScore();
        noSuchMember();
        cameLater();
        due.finish();
    }

    private static void twenty() {
        due.sentence("the number under which (20 at most); FULL");
        ScoreDifferences x = Scenes.withObjects(1);
        for (int i = 0; i < 20; i++) {
            x.change(0, 0, 0, i);
            due.is("not yet", x.then(i, 0, 3), -1000000);
            due.is("keep", x.keep(0), i);
            due.is("all(4)", x.all(4), i + 1);
        }
        for (int i = 0; i < 20; i++) {
            due.is("then", x.then(i, 0, 3), i);
        }
        Scene full = new Scene(due, Scenes::full);
        for (int i = 0; i < 4; i++) {
            int plan = i;
            full.still("keep(" + plan + "), a 21st", y -> y.keep(plan), -4);
        }
    }

    private static void keepNone() {
        due.sentence("keep: NONE");
        Scene busy = new Scene(due, Scenes::busy);
        for (int plan : new int[] {-1, 2, 4, LEAST, MOST}) {
            busy.still("keep(" + plan + ")", x -> x.keep(plan), -1);
        }
        due.is("the last PLAN", busy.start().keep(1), 2);
    }

    private static void firstRefusalNamed() {
        due.sentence("keep: NONE; FULL. (both: the first that is named)");
        Scene full = new Scene(due, Scenes::full);
        full.still("keep(4)", x -> x.keep(4), -1);
        full.still("keep(-1)", x -> x.keep(-1), -1);
    }

    private static void asThen() {
        due.sentence("SCORES and MEMBERS of a PLAN are kept as they are");
        ScoreDifferences x = Scenes.withObjects(2);
        x.rule(0, 3, 0, 1, 0);
        x.rule(3, 1, 0, 4, 2);
        x.change(0, 0, 0, 5);
        x.change(0, 1, 2, 0);
        x.forget(0, 0, true);
        x.change(0, 1, 0, 1);
        due.is("keep(0)", x.keep(0), 0);
        x.change(0, 1, 1, 7);
        x.mend(0, 0);
        x.fork(0);
        x.change(1, 0, 0, -9);
        due.is("keep(1)", x.keep(1), 1);
        x.undo(0);
        x.undo(0);
        x.change(1, 0, 0, 77);
        long[][] scores = {{10, 0, 4}, {11, 0, 0}};
        int[][] second = {{1, 0, 0, 6}, {1, 7, 0, -8}};
        for (int number = 0; number < 2; number++) {
            for (int i = 0; i < 3; i++) {
                due.is("kept(" + number + ", " + i + ")", x.kept(number, i), scores[number][i]);
            }
            for (int m = 0; m < 4; m++) {
                due.is("then(" + number + ", 1, " + m + ")", x.then(number, 1, m), second[number][m]);
            }
        }
    }

    private static void changesNothing() {
        due.sentence("SCORES and MEMBERS of a PLAN are kept: the PLAN itself goes on as it is");
        ScoreDifferences x = new ScoreDifferences();
        Scenes.busy(x);
        x.keep(0);
        int[] told = {5, 5, x.told(0, 2), 2, 1, 1};
        for (int what = 0; what < told.length; what++) {
            due.is("told(0, " + what + ")", x.told(0, what), told[what]);
        }
        due.is("its BATCH", x.end(0, false), 2);
        due.is("kept as it was", x.then(2, 1, 0), -3);
        due.is("but not there", x.member(0, 1, 0), 0);
    }

    private static void ofNothing() {
        due.sentence("SCORES and MEMBERS of a PLAN are kept as they are: none");
        ScoreDifferences x = new ScoreDifferences();
        due.is("keep(0)", x.keep(0), 0);
        due.is("kept(0, 0)", x.kept(0, 0), 0);
        due.is("kept(0, 2)", x.kept(0, 2), 0);
        due.is("then(0, 0, 0)", x.then(0, 0, 0), -1000000);
    }

    private static void noSuchScore() {
        due.sentence("kept: -1: no such number, LEVEL.");
        Scene busy = new Scene(due, Scenes::busy);
        int[][] wrong = {{-1, 0}, {2, 0}, {20, 0}, {LEAST, 0}, {MOST, 0}, {0, -1}, {0, 3}, {0, LEAST}, {0, MOST}};
        for (int[] w : wrong) {
            busy.still("kept(" + w[0] + ", " + w[1] + ")", x -> x.kept(w[0], w[1]), -1);
        }
        Scene full = new Scene(due, Scenes::full);
        full.still("the last number and LEVEL", x -> x.kept(19, 2), 1620);
        full.still("kept(20, 0)", x -> x.kept(20, 0), -1);
    }

    private static void noSuchMember() {
        due.sentence("then: -1000000: there is no such thing");
        Scene busy = new Scene(due, Scenes::busy);
        int[][] wrong = {
            {-1, 0, 0}, {2, 0, 0}, {20, 0, 0}, {LEAST, 0, 0}, {MOST, 0, 0},
            {0, -1, 0}, {0, 5, 0}, {0, 40, 0}, {0, LEAST, 0}, {0, MOST, 0},
            {0, 0, -1}, {0, 0, 4}, {0, 0, LEAST}, {0, 0, MOST},
        };
        for (int[] w : wrong) {
            busy.still("then(" + w[0] + ", " + w[1] + ", " + w[2] + ")", x -> x.then(w[0], w[1], w[2]), -1000000);
        }
        busy.still("the last that is there", x -> x.then(1, 4, 2), -1);
        Scene full = new Scene(due, Scenes::full);
        full.still("the last of all", x -> x.then(19, 39, 3), 0);
        full.still("a 21st number", x -> x.then(20, 39, 3), -1000000);
        full.still("a 41st object", x -> x.then(19, 40, 3), -1000000);
    }

    private static void cameLater() {
        due.sentence("(also an object that came later)");
        ScoreDifferences x = new ScoreDifferences();
        x.rule(1, 0, -3, 1, 0);
        x.object();
        due.is("keep(0)", x.keep(0), 0);
        x.object();
        x.rule(0, 0, -1, 1, 0);
        due.is("the first", x.then(0, 0, 2), -1);
        due.is("one that came later", x.then(0, 1, 0), -1000000);
        due.is("it is there now", x.member(0, 1, 0), 0);
        due.is("without the later RULE", x.kept(0, 0), 3);
        due.is("with it", x.score(0, 0), 5);
        due.is("keep(0)", x.keep(0), 1);
        due.is("kept now", x.then(1, 1, 0), 0);
        due.is("but not then", x.then(0, 1, 0), -1000000);
    }
}
