/** All promises with as many objects, RULES, PLANS and kept numbers as there may be. */
public final class FullHouseTest {
    private static final Due due = new Due();

    public static void main(String[] args) {
        ScoreDifferences x = new ScoreDifferences();
        for (int r = 0; r < 12; r++) {
            x.rule(r % 6, r < 6 ? 3 : 2, r, 1 + r, r % 3);
        }
        for (int o = 0; o < 40; o++) {
            x.object();
        }
        long[] first = {0, 0, 6, 3120, 180, 0, 0, 0, 432, 7800, 330, 0};
        worths("at first", x, 0, first);
        for (int o = 0; o < 40; o++) {
            x.change(0, o, 0, o % 4);
        }
        for (int o = 39; o > 0; o--) {
            x.change(0, o, 2, o - 1);
        }
        // END of object 4q + j is 6q + 0, 1, 3 or 6: 1180 in all, and nine of them stand twice.
        // BEFORE is each of -1 .. 38 once: 740 in all, and 528 is how far those above 6 are above it.
        long[] chained = {1180, 2 * 1179, 3 * 1178, 4 * 9, 0, 0, 7 * 528, 8 * 733, 9 * 732, 0, 0, 0};
        worths("chained", x, 0, chained);
        due.is("COST", x.told(0, 2), costOfChain());
        for (int plan = 1; plan < 4; plan++) {
            due.is("fork", x.fork(plan - 1), plan);
            worths("forked", x, plan, chained);
        }
        for (int r = 0; r < 12; r++) {
            due.is("forget", x.forget(3, r, true), 0);
        }
        due.is("all FORGET", x.told(3, 5), 12);
        due.is("all ENDS", x.change(3, 0, 0, 1000), 41);
        for (int r = 0; r < 12; r++) {
            due.is("KEPT though all is else", x.worth(3, r, 0), chained[r]);
        }
        due.is("sum above, FROM NOTHING", x.worth(3, 1, 1), 2 * 41179);
        due.is("attempt", x.attempt(2, 0, 0, 1000, 1), x.attempt(1, 0, 0, 1000, 1));
        for (int k = 0; k < 20; k++) {
            due.is("keep", x.keep(k % 4), k);
        }
        due.is("then", x.then(19, 39, 3), 1060);
        due.is("then", x.then(18, 39, 3), 60);
        for (int left = 59; left >= 0; left--) {
            due.is("undo", x.undo(0), left);
        }
        due.is("check", x.check(0), -1);
        due.is("then", x.then(0, 39, 3), 60);
        due.finish();
    }

    /** RULES 0 .. 5 look at END (5 at BEFORE, too), 6 .. 11 at BEFORE; the chain is laid from its last object. */
    private static long costOfChain() {
        long loads = 30 * 6;
        long befores = 0;
        for (int o = 39; o > 0; o--) {
            int endsMove = (o - 1) % 4 == 0 ? 0 : 40 - o;
            int pairsOfFive = endsMove > 0 ? endsMove : 1;
            befores += 5L * endsMove + pairsOfFive + 6;
        }
        return loads + befores;
    }

    private static void worths(String when, ScoreDifferences x, int plan, long[] want) {
        for (int r = 0; r < want.length; r++) {
            due.is(when + ": KEPT " + r, x.worth(plan, r, 0), want[r]);
            due.is(when + ": FROM NOTHING " + r, x.worth(plan, r, 1), want[r]);
        }
    }
}
