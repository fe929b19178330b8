/** Promises 20 and 21: told() and all(). */
public final class ToldTest {
    private static final Due due = new Due();
    private static final int LEAST = Integer.MIN_VALUE;
    private static final int MOST = Integer.MAX_VALUE;

    public static void main(String[] args) {
        Scene scene = new Scene(due, ToldTest::make);
        told(scene);
        toldNone(scene);
        all(scene);
        allNone(scene);
        theMost();
        due.finish();
    }

    private static void make(ScoreDifferences x) {
        Scenes.objects(x, 3);
        x.rule(0, 0, 0, 1, 0);
        x.rule(2, 1, 0, 1, 0);
        x.forget(0, 1, true);
        x.every(2);
        x.change(0, 0, 1, 4);
        x.change(0, 0, 1, 6);
        x.change(0, 1, 0, 2);
        x.undo(0);
        x.begin(0);
        x.fork(0);
        x.keep(1);
    }

    private static void told(Scene scene) {
        due.sentence("Of a PLAN: what = 0 its CHANGES in all, 1 how many are known, 2 COST, 3 FOUND,"
            + " 4 whether a BATCH is begun (1, 0), 5 how many RULES FORGET.");
        int[][] told = {{3, 2, 4, 1, 1, 1}, {0, 0, 0, -1, 0, 1}};
        for (int p = 0; p < 2; p++) {
            for (int w = 0; w < 6; w++) {
                int plan = p;
                int what = w;
                scene.still("told(" + plan + ", " + what + ")", x -> x.told(plan, what), told[plan][what]);
            }
        }
    }

    private static void toldNone(Scene scene) {
        due.sentence("told: NONE.");
        int[][] wrong = {{0, -1}, {0, 6}, {0, LEAST}, {0, MOST}, {-1, 0}, {2, 0}, {4, 0}, {LEAST, 4}, {MOST, 4}};
        for (int[] w : wrong) {
            scene.still("told(" + w[0] + ", " + w[1] + ")", x -> x.told(w[0], w[1]), -1);
        }
    }

    private static void all(Scene scene) {
        due.sentence("0 objects, 1 RULES, 2 PLANS, 3 EVERY, 4 numbers under which is kept.");
        int[] all = {3, 2, 2, 2, 1};
        for (int w = 0; w < all.length; w++) {
            int what = w;
            scene.still("all(" + what + ")", x -> x.all(what), all[what]);
        }
    }

    private static void allNone(Scene scene) {
        due.sentence("all: NONE.");
        for (int what : new int[] {-1, 5, LEAST, MOST}) {
            scene.still("all(" + what + ")", x -> x.all(what), -1);
        }
    }

    private static void theMost() {
        due.sentence("40 at most .. 12 at most .. PLANS 0 .. 3 .. (20 at most): all told");
        ScoreDifferences x = new ScoreDifferences();
        Scenes.full(x);
        x.every(100);
        int[] all = {40, 12, 4, 100, 20};
        for (int what = 0; what < all.length; what++) {
            due.is("all(" + what + ")", x.all(what), all[what]);
        }
        for (int r = 0; r < 12; r++) {
            due.is("how many FORGET", x.told(3, 5), r);
            x.forget(3, r, true);
        }
        due.is("all FORGET", x.told(3, 5), 12);
        due.is("told(3, 6)", x.told(3, 6), -1);
        due.is("told(4, 5)", x.told(4, 5), -1);
    }
}
