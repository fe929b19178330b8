/** Runs of calls that several tests begin with; each has at most 200 calls. */
final class Scenes {
    private static final int LOAD = 0;
    private static final int GROUP = 1;
    private static final int BEFORE = 2;

    private Scenes() {
    }

    static void objects(ScoreDifferences x, int count) {
        for (int o = 0; o < count; o++) {
            x.object();
        }
    }

    static ScoreDifferences withObjects(int count) {
        ScoreDifferences x = new ScoreDifferences();
        objects(x, count);
        return x;
    }

    /** A RULE of each KIND. */
    static void rules(ScoreDifferences x) {
        x.rule(0, 3, 4, 2, 0);
        x.rule(1, 0, 6, 1, 1);
        x.rule(2, 3, 20, 3, 2);
        x.rule(3, 1, 0, 5, 0);
        x.rule(4, 1, 1, 7, 1);
        x.rule(5, 3, 0, 11, 2);
    }

    /** Five objects, six RULES, no CHANGE: objects and RULES may still come. */
    static void young(ScoreDifferences x) {
        objects(x, 5);
        rules(x);
        x.forget(0, 2, true);
        x.keep(0);
    }

    /**
     * Five objects, six RULES, PLANS 0 and 1, two numbers kept. PLAN 0: five CHANGES known, two of them in a
     * BATCH that is begun; RULE 2 FORGETS and is FALSE. PLAN 1: two known, no BATCH. EVERY 3. Objects 0, 1, 2 are
     * a chain, each BEFORE the next, in both.
     */
    static void busy(ScoreDifferences x) {
        young(x);
        x.every(3);
        x.change(0, 0, LOAD, 8);
        x.change(0, 1, BEFORE, 0);
        x.change(0, 2, BEFORE, 1);
        x.fork(0);
        x.begin(0);
        x.change(0, 1, LOAD, -3);
        x.change(0, 3, GROUP, 2);
        x.keep(1);
        x.change(1, 4, GROUP, 2);
        x.change(1, 2, LOAD, 9);
        x.change(1, 2, LOAD, 1);
        x.undo(1);
    }

    /** As many objects, RULES, PLANS and kept numbers as there may be. */
    static void full(ScoreDifferences x) {
        objects(x, 40);
        rules(x);
        rules(x);
        for (int o = 1; o < 20; o++) {
            x.change(0, o, BEFORE, o - 1);
            x.change(0, o, LOAD, o % 4);
        }
        x.fork(0);
        x.fork(1);
        x.fork(2);
        for (int number = 0; number < 20; number++) {
            x.change(number % 4, number, GROUP, number);
            x.keep(number % 4);
        }
    }
}
