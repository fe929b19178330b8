/** Terms: what a RULE of each KIND is worth, KEPT by differences and FROM NOTHING, on both sides of each edge. */
public final class WorthTest {
    private static final Due due = new Due();
    private static final int LOAD = 0;
    private static final int GROUP = 1;
    private static final int BEFORE = 2;
    private static final int END = 3;

    public static void main(String[] args) {
        eachAbove();
        sumAbove();
        sumOff();
        equalPairs();
        crowds();
        crowdsBelowZero();
        lessThanBefore();
        weights();
        overBefore();
        allKindsAtOnce();
        largest();
        due.finish();
    }

    private static void worth(String when, ScoreDifferences x, int rule, long want) {
        due.is(when + ", KEPT", x.worth(0, rule, 0), want);
        due.is(when + ", FROM NOTHING", x.worth(0, rule, 1), want);
    }

    private static void eachAbove() {
        due.sentence("KIND 0 the sum, over all objects, of how far m is above c (0 if it is not)");
        ScoreDifferences x = new ScoreDifferences();
        x.rule(0, LOAD, 5, 1, 0);
        x.rule(0, LOAD, -1, 1, 0);
        worth("no object", x, 0, 0);
        worth("no object, c below 0", x, 1, 0);
        Scenes.objects(x, 2);
        worth("c below all", x, 1, 2);
        x.change(0, 0, LOAD, 4);
        worth("one below c", x, 0, 0);
        x.change(0, 0, LOAD, 5);
        worth("at c", x, 0, 0);
        x.change(0, 0, LOAD, 6);
        worth("one above c", x, 0, 1);
        x.change(0, 1, LOAD, -1000);
        worth("another far below takes nothing off", x, 0, 1);
        worth("at the other bound", x, 1, 7);
        x.change(0, 1, LOAD, 1000);
        worth("both above", x, 0, 996);
    }

    private static void sumAbove() {
        due.sentence("1 how far the sum of m of all objects is above c (0 if not)");
        ScoreDifferences x = new ScoreDifferences();
        x.rule(1, LOAD, 10, 1, 0);
        x.rule(1, LOAD, -1, 1, 0);
        x.rule(1, LOAD, 0, 1, 0);
        worth("no object, c above 0", x, 0, 0);
        worth("no object, c below 0", x, 1, 1);
        worth("no object, c 0", x, 2, 0);
        Scenes.objects(x, 2);
        x.change(0, 0, LOAD, 12);
        x.change(0, 1, LOAD, -3);
        worth("one below c", x, 0, 0);
        x.change(0, 1, LOAD, -2);
        worth("at c", x, 0, 0);
        x.change(0, 1, LOAD, -1);
        worth("one above c", x, 0, 1);
        x.change(0, 0, LOAD, -1);
        worth("below c", x, 1, 0);
    }

    private static void sumOff() {
        due.sentence("2 how far that sum is from c");
        ScoreDifferences x = new ScoreDifferences();
        x.rule(2, LOAD, 10, 1, 0);
        x.rule(2, LOAD, -10, 1, 0);
        worth("no object", x, 0, 10);
        worth("no object, c below 0", x, 1, 10);
        Scenes.objects(x, 2);
        x.change(0, 0, LOAD, 9);
        worth("one below c", x, 0, 1);
        x.change(0, 1, LOAD, 1);
        worth("at c", x, 0, 0);
        x.change(0, 0, LOAD, 10);
        worth("one above c", x, 0, 1);
        x.change(0, 0, LOAD, -12);
        worth("one below a c below 0", x, 1, 1);
    }

    private static void equalPairs() {
        due.sentence("3 how many pairs of objects have equal m");
        ScoreDifferences x = new ScoreDifferences();
        x.rule(3, GROUP, 7, 1, 0);
        worth("no object", x, 0, 0);
        x.object();
        worth("one object is no pair", x, 0, 0);
        x.object();
        worth("two", x, 0, 1);
        x.object();
        worth("three", x, 0, 3);
        x.change(0, 0, GROUP, 1);
        worth("one is one off", x, 0, 1);
        x.change(0, 1, GROUP, 1);
        worth("another with it", x, 0, 1);
        x.change(0, 2, GROUP, 2);
        worth("one is one off again", x, 0, 1);
        x.change(0, 1, GROUP, 0);
        worth("all else", x, 0, 0);
        ScoreDifferences most = Scenes.withObjects(40);
        most.rule(3, GROUP, 0, 1, 0);
        worth("forty", most, 0, 780);
    }

    private static void crowds() {
        due.sentence("4 the sum, over all numbers that are m of some objects, of how many more than c these are (0 if not more)");
        ScoreDifferences x = new ScoreDifferences();
        x.rule(4, GROUP, 2, 1, 0);
        worth("no object", x, 0, 0);
        Scenes.objects(x, 6);
        for (int o = 0; o < 6; o++) {
            x.change(0, o, GROUP, o);
        }
        worth("one of each", x, 0, 0);
        x.change(0, 1, GROUP, 0);
        worth("as many as c", x, 0, 0);
        x.change(0, 2, GROUP, 0);
        worth("one more than c", x, 0, 1);
        x.change(0, 4, GROUP, 3);
        x.change(0, 5, GROUP, 3);
        worth("one more than c, twice", x, 0, 2);
        ScoreDifferences most = Scenes.withObjects(40);
        most.rule(4, GROUP, 39, 1, 0);
        most.rule(4, GROUP, 40, 1, 0);
        most.rule(4, GROUP, 1000000, 1, 0);
        worth("forty, c 39", most, 0, 1);
        worth("forty, c 40", most, 1, 0);
        worth("forty, the most c", most, 2, 0);
    }

    private static void crowdsBelowZero() {
        due.sentence("4 .. (with c below 0 as with 0)");
        ScoreDifferences x = new ScoreDifferences();
        int[] bounds = {-1000000, -1, 0, 1, 2, 3, 4};
        long[] worths = {5, 5, 5, 3, 1, 0, 0};
        for (int c : bounds) {
            x.rule(4, GROUP, c, 1, 0);
        }
        for (int r = 0; r < bounds.length; r++) {
            worth("no object, c " + bounds[r], x, r, 0);
        }
        Scenes.objects(x, 5);
        x.change(0, 0, GROUP, 20);
        x.change(0, 3, GROUP, 20);
        for (int r = 0; r < bounds.length; r++) {
            worth("c " + bounds[r], x, r, worths[r]);
        }
    }

    private static void lessThanBefore() {
        due.sentence("5 how many objects have a BEFORE whose m is greater than theirs");
        ScoreDifferences x = new ScoreDifferences();
        x.rule(5, LOAD, 0, 1, 0);
        x.rule(5, END, 0, 1, 0);
        worth("no object", x, 0, 0);
        Scenes.objects(x, 3);
        x.change(0, 0, LOAD, 3);
        worth("no BEFORE", x, 0, 0);
        x.change(0, 1, LOAD, 3);
        x.change(0, 1, BEFORE, 0);
        worth("equal", x, 0, 0);
        x.change(0, 1, LOAD, 4);
        worth("BEFORE's is one less", x, 0, 0);
        x.change(0, 1, LOAD, 2);
        worth("BEFORE's is one greater", x, 0, 1);
        x.change(0, 2, LOAD, -1);
        x.change(0, 2, BEFORE, 1);
        worth("two", x, 0, 2);
        worth("END of one with a LOAD below 0", x, 1, 1);
        x.change(0, 2, LOAD, 0);
        worth("END of one with no LOAD", x, 1, 0);
        x.change(0, 2, BEFORE, 0);
        worth("two behind one", x, 0, 2);
        x.change(0, 1, BEFORE, -1);
        worth("BEFORE is gone", x, 0, 1);
    }

    private static void weights() {
        due.sentence("FROM NOTHING it is worth its WEIGHT times ..");
        ScoreDifferences x = Scenes.withObjects(3);
        for (int kind = 0; kind <= 5; kind++) {
            x.rule(kind, LOAD, 1, 1, 0);
            x.rule(kind, LOAD, 1, 1000, 1);
        }
        x.change(0, 0, LOAD, 5);
        x.change(0, 1, BEFORE, 0);
        long[] once = {4, 4, 4, 1, 1, 1};
        for (int kind = 0; kind <= 5; kind++) {
            worth("KIND " + kind + " once", x, 2 * kind, once[kind]);
            worth("KIND " + kind + " a thousand times", x, 2 * kind + 1, 1000 * once[kind]);
        }
    }

    private static void overBefore() {
        due.sentence("a MEMBER m that it looks at: BEFORE is a number like others, -1 too");
        ScoreDifferences x = Scenes.withObjects(4);
        for (int kind = 0; kind <= 5; kind++) {
            x.rule(kind, BEFORE, 0, 1, 0);
        }
        worth("no BEFORE: pairs", x, 3, 6);
        worth("no BEFORE: sum off", x, 2, 4);
        x.change(0, 1, BEFORE, 3);
        x.change(0, 0, BEFORE, 1);
        x.change(0, 3, BEFORE, 2);
        // BEFORE is now 1, 3, -1, 2
        long[] worths = {6, 5, 5, 0, 4, 1};
        for (int r = 0; r < worths.length; r++) {
            worth("KIND " + r, x, r, worths[r]);
        }
    }

    private static void allKindsAtOnce() {
        due.sentence("Each RULE that does not FORGET .. is KEPT at so much more as it is worth more FROM NOTHING by the CHANGE");
        ScoreDifferences x = Scenes.withObjects(5);
        for (int kind = 0; kind <= 5; kind++) {
            x.rule(kind, LOAD, 2, 10, 0);
        }
        x.rule(2, LOAD, 100, 10, 0);
        x.rule(1, LOAD, 100, 10, 0);
        int[] loads = {7, 3, 3, -4, 3};
        int[] befores = {-1, 0, 1, 1, 3};
        for (int o = 0; o < 5; o++) {
            x.change(0, o, LOAD, loads[o]);
            x.change(0, o, BEFORE, befores[o]);
        }
        long[] worths = {80, 100, 100, 30, 10, 20, 880, 0};
        for (int r = 0; r < worths.length; r++) {
            worth("RULE " + r, x, r, worths[r]);
        }
    }

    private static void largest() {
        due.sentence("LOAD (-1000 .. 1000) .. 40 at most .. BOUND c (-1000000 .. 1000000), a WEIGHT (1 .. 1000): the most of all");
        ScoreDifferences x = new ScoreDifferences();
        x.rule(0, END, -1000000, 1000, 1);
        x.rule(2, END, 1000000, 1000, 2);
        x.rule(1, END, -1000000, 1000, 0);
        Scenes.objects(x, 40);
        for (int o = 0; o < 40; o++) {
            x.change(0, o, LOAD, 1000);
        }
        for (int o = 1; o < 40; o++) {
            x.change(0, o, BEFORE, o - 1);
        }
        due.is("the last END", x.member(0, 39, END), 40000);
        due.is("each above, beyond an int", x.score(0, 1), 40820000000L);
        due.is("sum off", x.score(0, 2), 180000000L);
        due.is("sum above", x.score(0, 0), 1820000000L);
        for (int o = 0; o < 40; o++) {
            x.change(0, o, LOAD, -1000);
        }
        due.is("the least END", x.member(0, 39, END), -40000);
        due.is("each above", x.score(0, 1), 39180000000L);
        due.is("sum off", x.score(0, 2), 1820000000L);
        due.is("sum above", x.score(0, 0), 180000000L);
        due.is("check(0)", x.check(0), -1);
    }
}
