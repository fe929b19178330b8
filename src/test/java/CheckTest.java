/** Promises 14, 15 and 16: check(), every() and mend(). */
public final class CheckTest {
    private static final Due due = new Due();
    private static final int LEAST = Integer.MIN_VALUE;
    private static final int MOST = Integer.MAX_VALUE;

    public static void main(String[] args) {
        firstFalse();
        falseByOne();
        checkOfNothing();
        everyNumbers();
        everyBeyond();
        everyZero();
        everyOne();
        everyThree();
        everyHundred();
        anotherEvery();
        foundNoneAgain();
        countedInEachPlan();
        mended();
        mendNone();
        knownStays();
        due.finish();
    }

    private static ScoreDifferences made() {
        ScoreDifferences x = Scenes.withObjects(1);
        x.rule(0, 0, 0, 1, 0);
        x.rule(0, 0, 5, 1, 0);
        x.rule(2, 0, 0, 1, 1);
        return x;
    }

    private static void firstFalse() {
        due.sentence("The first RULE that is FALSE in a PLAN");
        ScoreDifferences x = made();
        x.forget(0, 1, true);
        x.forget(0, 2, true);
        x.change(0, 0, 0, 4);
        due.is("the second is still right", x.check(0), 2);
        x.change(0, 0, 0, 6);
        due.is("the first FALSE one", x.check(0), 1);
        due.is("check() is not FOUND", x.told(0, 3), -1);
        ScoreDifferences full = new ScoreDifferences();
        Scenes.full(full);
        full.forget(3, 11, true);
        full.change(3, 19, 0, -999);
        due.is("the last RULE in the last PLAN", full.check(3), 11);
        due.is("the other PLANS have no part in it", full.check(2), -1);
    }

    private static void falseByOne() {
        due.sentence("a RULE is FALSE in a PLAN, if it is KEPT at another number than it is worth FROM NOTHING");
        ScoreDifferences x = made();
        x.forget(0, 0, true);
        due.is("to FORGET is not to be FALSE", x.check(0), -1);
        x.change(0, 0, 0, 1);
        due.is("KEPT at one less", x.check(0), 0);
        x.change(0, 0, 0, 0);
        due.is("right again by chance", x.check(0), -1);
        x.forget(0, 0, false);
        x.change(0, 0, 0, 1);
        x.forget(0, 0, true);
        x.change(0, 0, 0, 0);
        due.is("KEPT at one more", x.check(0), 0);
        x.forget(0, 0, false);
        due.is("though it does not FORGET any more", x.check(0), 0);
    }

    private static void checkOfNothing() {
        due.sentence("check: NONE: no one, or no such PLAN.");
        due.is("no RULE", new ScoreDifferences().check(0), -1);
        due.is("none is FALSE", made().check(0), -1);
        Scene busy = new Scene(due, Scenes::busy);
        busy.still("check(0)", x -> x.check(0), 2);
        for (int plan : new int[] {-1, 2, 4, LEAST, MOST}) {
            busy.still("check(" + plan + ")", x -> x.check(plan), -1);
        }
    }

    private static void everyNumbers() {
        due.sentence("EVERY is n (0 .. 100): what it was.");
        ScoreDifferences x = new ScoreDifferences();
        due.is("every(100)", x.every(100), 0);
        due.is("all(3)", x.all(3), 100);
        due.is("every(99)", x.every(99), 100);
        due.is("every(1)", x.every(1), 99);
        due.is("every(0)", x.every(0), 1);
        due.is("all(3)", x.all(3), 0);
        due.is("every(0)", x.every(0), 0);
    }

    private static void everyBeyond() {
        due.sentence("every: NONE.");
        Scene busy = new Scene(due, Scenes::busy);
        for (int n : new int[] {-1, 101, LEAST, MOST}) {
            busy.still("every(" + n + ")", x -> x.every(n), -1);
        }
        due.is("it is what it was", busy.start().all(3), 3);
    }

    /** RULE 2 FORGETS, and each of the CHANGES leaves it FALSE. */
    private static ScoreDifferences forgetful(int every) {
        ScoreDifferences x = made();
        x.forget(0, 2, true);
        x.every(every);
        return x;
    }

    private static void changeAndFind(ScoreDifferences x, int first, int times, int found) {
        for (int i = 0; i < times; i++) {
            x.change(0, 0, 0, first + i);
            due.is("FOUND behind LOAD " + (first + i), x.told(0, 3), found);
        }
    }

    private static void everyZero() {
        due.sentence("With EVERY n above 0: with 0 no PLAN is checked by itself");
        changeAndFind(forgetful(0), 1, 101, -1);
    }

    private static void everyOne() {
        due.sentence("With EVERY n above 0 a PLAN is checked by itself behind each n-th CHANGE: with 1 behind each");
        ScoreDifferences x = forgetful(1);
        due.is("not at once", x.told(0, 3), -1);
        changeAndFind(x, 1, 1, 2);
        x.mend(0, 2);
        due.is("FOUND stays", x.told(0, 3), 2);
        x.forget(0, 2, false);
        changeAndFind(x, 2, 2, -1);
    }

    private static void everyThree() {
        due.sentence("checked by itself behind each n-th CHANGE of it");
        ScoreDifferences x = forgetful(3);
        changeAndFind(x, 1, 2, -1);
        x.change(0, 0, 9, 2);
        x.change(0, 0, 0, 1001);
        x.attempt(0, 0, 0, 5, 0);
        due.is("a refused one does not count", x.told(0, 3), -1);
        x.change(0, 0, 0, 2);
        due.is("the third, though it gives no MEMBER another number", x.told(0, 3), 2);
        x.mend(0, 2);
        x.forget(0, 2, false);
        changeAndFind(x, 3, 2, 2);
        changeAndFind(x, 5, 1, -1);
    }

    private static void everyHundred() {
        due.sentence("behind each n-th CHANGE of it: with the most, 100");
        ScoreDifferences x = forgetful(100);
        changeAndFind(x, 1, 99, -1);
        changeAndFind(x, 100, 1, 2);
        x.mend(0, 2);
        x.forget(0, 2, false);
        changeAndFind(x, 101, 99, 2);
        changeAndFind(x, 200, 1, -1);
    }

    private static void anotherEvery() {
        due.sentence("(CHANGES in it since it came are counted, ..: not those since EVERY was set");
        ScoreDifferences x = forgetful(0);
        changeAndFind(x, 1, 7, -1);
        x.every(4);
        due.is("not at once", x.told(0, 3), -1);
        changeAndFind(x, 8, 1, 2);
        x.every(5);
        x.mend(0, 2);
        x.forget(0, 2, false);
        changeAndFind(x, 9, 1, 2);
        changeAndFind(x, 10, 1, -1);
    }

    private static void foundNoneAgain() {
        due.sentence("FOUND is then its first FALSE RULE (NONE, if there is none; so at first, too)");
        ScoreDifferences x = made();
        due.is("at first", x.told(0, 3), -1);
        x.every(2);
        x.forget(0, 0, true);
        x.forget(0, 2, true);
        x.change(0, 0, 0, 1);
        due.is("not checked yet", x.told(0, 3), -1);
        x.change(0, 0, 0, 2);
        due.is("the first of two", x.told(0, 3), 0);
        x.mend(0, 0);
        x.change(0, 0, 0, 2);
        x.change(0, 0, 0, 2);
        due.is("the other", x.told(0, 3), 2);
        x.undo(0);
        x.change(0, 0, 0, 0);
        due.is("until it is checked", x.told(0, 3), 2);
        x.mend(0, 0);
        x.change(0, 0, 0, 0);
        due.is("none", x.told(0, 3), -1);
    }

    private static void countedInEachPlan() {
        due.sentence("each n-th CHANGE of it (CHANGES in it since it came are counted");
        ScoreDifferences x = made();
        x.forget(0, 0, true);
        x.every(2);
        x.change(0, 0, 0, 1);
        x.fork(0);
        x.change(1, 0, 0, 2);
        due.is("the first of that PLAN", x.told(1, 3), -1);
        x.change(0, 0, 0, 2);
        due.is("the second of this", x.told(0, 3), 0);
        due.is("that one was not checked", x.told(1, 3), -1);
        x.change(1, 0, 0, 3);
        due.is("the second of that", x.told(1, 3), 0);
    }

    private static void mended() {
        due.sentence("A RULE is KEPT at what it is worth FROM NOTHING in a PLAN from now on: whether it was FALSE (1, 0).");
        ScoreDifferences x = made();
        due.is("it was right", x.mend(0, 0), 0);
        x.forget(0, 0, true);
        x.forget(0, 2, true);
        x.change(0, 0, 0, 4);
        x.fork(0);
        due.is("it was FALSE", x.mend(0, 0), 1);
        due.is("KEPT", x.worth(0, 0, 0), 4);
        due.is("SCORE", x.score(0, 0), 4);
        due.is("it still FORGETS", x.forget(0, 0, true), 1);
        due.is("the other is FALSE yet", x.check(0), 2);
        due.is("again", x.mend(0, 0), 0);
        due.is("in the other PLAN it is as it was", x.worth(1, 0, 0), 0);
        due.is("and FALSE", x.mend(1, 0), 1);
        x.forget(0, 0, false);
        x.change(0, 0, 0, 5);
        due.is("differences go on from there", x.worth(0, 0, 0), 5);
    }

    private static void mendNone() {
        due.sentence("mend: NONE.");
        Scene busy = new Scene(due, Scenes::busy);
        int[][] wrong = {{-1, 2}, {2, 2}, {4, 2}, {LEAST, 2}, {MOST, 2}, {0, -1}, {0, 6}, {0, 12}, {0, LEAST}, {0, MOST}};
        for (int[] w : wrong) {
            busy.still("mend(" + w[0] + ", " + w[1] + ")", x -> x.mend(w[0], w[1]), -1);
        }
        busy.still("mend(0, 5), which is right", x -> x.mend(0, 5), 0);
        due.is("mend(0, 2)", busy.start().mend(0, 2), 1);
        ScoreDifferences full = new ScoreDifferences();
        Scenes.full(full);
        due.is("the last RULE in the last PLAN", full.mend(3, 11), 0);
        due.is("a 13th", full.mend(3, 12), -1);
        due.is("a fifth PLAN", full.mend(4, 11), -1);
    }

    private static void knownStays() {
        due.sentence("What is known of CHANGES stays.");
        ScoreDifferences x = made();
        x.forget(0, 0, true);
        x.change(0, 0, 0, 4);
        x.change(0, 0, 0, 6);
        x.mend(0, 0);
        due.is("known", x.told(0, 1), 2);
        due.is("CHANGES", x.told(0, 0), 2);
        x.change(0, 0, 0, 9);
        x.undo(0);
        due.is("as mended", x.worth(0, 0, 0), 6);
        x.undo(0);
        due.is("as ahead of the second", x.worth(0, 0, 0), 0);
        due.is("which was FALSE", x.check(0), 0);
        due.is("LOAD", x.member(0, 0, 0), 4);
    }
}
