/** Promises 20 and 21: told() and all(). */
public final class ToldTest {
    private static final Due due = new Due();

    public static void main(String[] args) {
        ScoreDifferences x = new ScoreDifferences();
        x.object();
        x.object();
        x.object();
        x.rule(0, 0, 0, 1, 0);
        x.rule(2, 1, 0, 1, 0);
        x.forget(0, 1, true);
        x.every(2);
        x.change(0, 0, 1, 4);
        x.change(0, 0, 1, 6);
        x.change(0, 1, 0, 2);
        x.undo(0);
        x.begin(0);
        x.fork(0);
        x.keep(1);
        int[] first = {3, 2, 4, 1, 1, 1};
        int[] second = {0, 0, 0, -1, 0, 1};
        for (int what = 0; what < first.length; what++) {
            due.is("told(0, " + what + ")", x.told(0, what), first[what]);
            due.is("told(1, " + what + ")", x.told(1, what), second[what]);
        }
        int[][] wrong = {{0, -1}, {0, 6}, {-1, 0}, {2, 0}, {4, 0}, {0, Integer.MAX_VALUE}, {Integer.MIN_VALUE, 4}};
        for (int[] w : wrong) {
            due.is("told(" + w[0] + ", " + w[1] + ")", x.told(w[0], w[1]), -1);
        }
        int[] all = {3, 2, 2, 2, 1};
        for (int what = 0; what < all.length; what++) {
            due.is("all(" + what + ")", x.all(what), all[what]);
        }
        due.is("all(-1)", x.all(-1), -1);
        due.is("all(5)", x.all(5), -1);
        due.finish();
    }
}
