/** Promise 6: change(), with ENDS that follow, and COST. */
public final class ChangeTest {
    private static final Due due = new Due();
    private static final int LOAD = 0;
    private static final int GROUP = 1;
    private static final int BEFORE = 2;
    private static final int END = 3;
    private static final int LEAST = Integer.MIN_VALUE;
    private static final int MOST = Integer.MAX_VALUE;

    public static void main(String[] args) {
        Scene busy = new Scene(due, Scenes::busy);
        plans(busy);
        objects(busy);
        members(busy);
        loads(busy);
        groups(busy);
        befores(busy);
        neverItself(busy);
        neverItselfByForty();
        otherWaysAreFree();
        othersCounted();
        noneIsAChangeToo();
        endsFollow();
        cost();
        costOfKindFive();
        costOfAllInAll();
        due.finish();
    }

    private static void refused(Scene scene, int plan, int object, int member, int v) {
        scene.still("change(" + plan + ", " + object + ", " + member + ", " + v + ")",
            x -> x.change(plan, object, member, v), -1);
    }

    private static void plans(Scene busy) {
        due.sentence("change: NONE: no such PLAN");
        due.is("the first PLAN", busy.start().change(0, 4, GROUP, 1), 1);
        due.is("the last PLAN", busy.start().change(1, 3, GROUP, 1), 1);
        for (int plan : new int[] {-1, 2, 3, 4, LEAST, MOST}) {
            refused(busy, plan, 4, GROUP, 1);
        }
    }

    private static void objects(Scene busy) {
        due.sentence("change: NONE: no such .. object");
        due.is("the first object", busy.start().change(0, 0, GROUP, 1), 1);
        due.is("the last object", busy.start().change(0, 4, GROUP, 1), 1);
        for (int object : new int[] {-1, 5, 39, 40, LEAST, MOST}) {
            refused(busy, 0, object, GROUP, 1);
        }
        Scene full = new Scene(due, Scenes::full);
        due.is("the 40th object", full.start().change(3, 39, LOAD, 1), 2);
        refused(full, 3, 40, LOAD, 1);
    }

    private static void members(Scene busy) {
        due.sentence("A CHANGE gives one MEMBER (0 .. 2) ..: NONE: no such .. MEMBER");
        due.is("the first MEMBER", busy.start().change(0, 4, LOAD, 1), 2);
        due.is("the last MEMBER", busy.start().change(0, 4, BEFORE, 3), 1);
        for (int member : new int[] {-1, END, 4, LEAST, MOST}) {
            refused(busy, 0, 4, member, 1);
        }
    }

    private static void loads(Scene busy) {
        due.sentence("0 LOAD (-1000 .. 1000); REFUSED if the number is not one for that MEMBER");
        for (int v : new int[] {-1000, 1000}) {
            ScoreDifferences x = busy.start();
            due.is("LOAD " + v, x.change(0, 4, LOAD, v), 2);
            due.is("LOAD", x.member(0, 4, LOAD), v);
            due.is("END", x.member(0, 4, END), v);
        }
        for (int v : new int[] {-1001, 1001, -1000000, LEAST, MOST}) {
            refused(busy, 0, 4, LOAD, v);
        }
    }

    private static void groups(Scene busy) {
        due.sentence("1 GROUP (0 .. 20); REFUSED if the number is not one for that MEMBER");
        for (int v : new int[] {0, 20}) {
            ScoreDifferences x = busy.start();
            due.is("GROUP " + v, x.change(0, 3, GROUP, v), 1);
            due.is("GROUP", x.member(0, 3, GROUP), v);
        }
        for (int v : new int[] {-1, 21, LEAST, MOST}) {
            refused(busy, 0, 3, GROUP, v);
        }
    }

    private static void befores(Scene busy) {
        due.sentence("2 BEFORE (another object, or -1); REFUSED if the number is not one for that MEMBER");
        ScoreDifferences x = busy.start();
        due.is("the last object", x.change(0, 3, BEFORE, 4), 1);
        due.is("BEFORE", x.member(0, 3, BEFORE), 4);
        due.is("the first object", x.change(0, 3, BEFORE, 0), 2);
        due.is("BEFORE", x.member(0, 3, BEFORE), 0);
        due.is("none", x.change(0, 3, BEFORE, -1), 2);
        due.is("BEFORE", x.member(0, 3, BEFORE), -1);
        for (int v : new int[] {-2, 5, 40, -1000000, LEAST, MOST}) {
            refused(busy, 0, 3, BEFORE, v);
        }
        Scene full = new Scene(due, Scenes::full);
        due.is("the 40th object", full.start().change(0, 30, BEFORE, 39), 1);
        refused(full, 0, 30, BEFORE, 40);
    }

    private static void neverItself(Scene busy) {
        due.sentence("BEFORE, that one's BEFORE, and so on never leads to the object itself");
        refused(busy, 0, 0, BEFORE, 0);
        refused(busy, 0, 4, BEFORE, 4);
        refused(busy, 0, 0, BEFORE, 1);
        refused(busy, 0, 0, BEFORE, 2);
        refused(busy, 0, 1, BEFORE, 2);
        ScoreDifferences x = busy.start();
        due.is("the chain may go on", x.change(0, 3, BEFORE, 2), 2);
        due.is("now that leads to 0, too", x.change(0, 0, BEFORE, 3), -1);
        due.is("it is cut", x.change(0, 1, BEFORE, -1), 4);
        due.is("and leads to 0 no more", x.change(0, 0, BEFORE, 3), 2);
        due.is("but the other way round", x.change(0, 1, BEFORE, 0), -1);
        due.is("in the other PLAN it is as it was", x.change(1, 0, BEFORE, 2), -1);
        due.is("UNDOING opens it again", x.undo(0), 7);
        due.is("then it may be", x.change(0, 1, BEFORE, 0), 4);
    }

    private static void neverItselfByForty() {
        due.sentence(".. and so on never leads to the object itself: by as many as there may be");
        Scene chain = new Scene(due, x -> {
            Scenes.objects(x, 40);
            for (int o = 1; o < 40; o++) {
                x.change(0, o, BEFORE, o - 1);
            }
        });
        ScoreDifferences x = chain.start();
        due.is("all ENDS of a chain", x.change(0, 0, LOAD, 1), 41);
        due.is("the chain's end", x.member(0, 39, END), 1);
        for (int o = 0; o < 40; o++) {
            due.is("0 behind " + o, x.change(0, 0, BEFORE, o), -1);
        }
        refused(chain, 0, 0, BEFORE, 39);
        refused(chain, 0, 0, BEFORE, 38);
        refused(chain, 0, 38, BEFORE, 39);
        due.is("20 behind 39", x.change(0, 20, BEFORE, 39), -1);
        due.is("39 behind 0", x.change(0, 39, BEFORE, 0), 1);
        due.is("39 behind 38", x.change(0, 39, BEFORE, 38), 1);
        due.is("20 behind none", x.change(0, 20, BEFORE, -1), 21);
        due.is("0 behind 39", x.change(0, 0, BEFORE, 39), 1);
        due.is("20 behind 19 goes round now", x.change(0, 20, BEFORE, 19), -1);
        due.is("END of 19", x.member(0, 19, END), 1);
    }

    private static void otherWaysAreFree() {
        due.sentence("BEFORE is REFUSED if it would lead to the object itself: to one that others lead to it may");
        ScoreDifferences x = Scenes.withObjects(40);
        for (int o = 1; o < 40; o++) {
            due.is("all behind 0", x.change(0, o, BEFORE, 0), 1);
        }
        due.is("all ENDS", x.change(0, 0, LOAD, -1000), 41);
        due.is("the same again", x.change(0, 5, BEFORE, 0), 0);
        due.is("one behind another", x.change(0, 5, BEFORE, 6), 1);
        due.is("END of 5", x.member(0, 5, END), -1000);
    }

    private static void othersCounted() {
        due.sentence("A CHANGE: how many MEMBERS have another number by it");
        ScoreDifferences x = Scenes.withObjects(5);
        x.change(0, 0, LOAD, 10);
        due.is("LOAD of one without others", x.change(0, 1, LOAD, 20), 2);
        due.is("GROUP", x.change(0, 1, GROUP, 20), 1);
        due.is("1 behind 0", x.change(0, 1, BEFORE, 0), 2);
        due.is("2 behind 1", x.change(0, 2, BEFORE, 1), 2);
        due.is("3 behind 1", x.change(0, 3, BEFORE, 1), 2);
        due.is("4 behind 3", x.change(0, 4, BEFORE, 3), 2);
        due.is("LOAD of 1: four ENDS", x.change(0, 1, LOAD, 25), 5);
        due.is("3 behind 0", x.change(0, 3, BEFORE, 0), 3);
        due.is("LOAD of 0: all ENDS", x.change(0, 0, LOAD, 0), 6);
        due.is("BEFORE without another END", x.change(0, 3, BEFORE, -1), 1);
    }

    private static void noneIsAChangeToo() {
        due.sentence("(0: none, it is a CHANGE all the same)");
        ScoreDifferences x = Scenes.withObjects(2);
        x.rule(0, 3, -1, 1, 0);
        x.every(3);
        due.is("LOAD as it is", x.change(0, 0, LOAD, 0), 0);
        due.is("GROUP as it is", x.change(0, 0, GROUP, 0), 0);
        due.is("CHANGES", x.told(0, 0), 2);
        x.forget(0, 0, true);
        x.forget(0, 0, false);
        due.is("BEFORE as it is", x.change(0, 0, BEFORE, -1), 0);
        due.is("CHANGES", x.told(0, 0), 3);
        due.is("all are known", x.told(0, 1), 3);
        due.is("no COST", x.told(0, 2), 0);
        due.is("SCORE", x.score(0, 0), 2);
        due.is("such a one is undone", x.undo(0), 2);
        due.is("no object comes any more", x.object(), -3);
    }

    private static void endsFollow() {
        due.sentence("3 END, a SHADOW: LOAD, and the END of BEFORE, if there is one; ENDS follow");
        ScoreDifferences x = Scenes.withObjects(5);
        x.change(0, 0, LOAD, 10);
        x.change(0, 1, LOAD, 20);
        due.is("no BEFORE", x.member(0, 1, END), 20);
        x.change(0, 1, BEFORE, 0);
        due.is("with BEFORE", x.member(0, 1, END), 30);
        x.change(0, 2, BEFORE, 1);
        x.change(0, 3, BEFORE, 1);
        x.change(0, 4, BEFORE, 3);
        ends("a tree", x, 10, 30, 30, 30, 30);
        x.change(0, 1, LOAD, 25);
        ends("LOAD in the midst", x, 10, 35, 35, 35, 35);
        x.change(0, 3, BEFORE, 0);
        ends("a branch has moved", x, 10, 35, 35, 10, 10);
        x.change(0, 4, LOAD, -30);
        ends("LOAD at the end", x, 10, 35, 35, 10, -20);
        x.change(0, 1, BEFORE, -1);
        ends("a branch is cut off", x, 10, 25, 25, 10, -20);
        x.change(0, 0, BEFORE, 2);
        ends("and put on the other way round", x, 35, 25, 25, 35, 5);
    }

    private static void ends(String when, ScoreDifferences x, int... ends) {
        for (int o = 0; o < ends.length; o++) {
            due.is(when + ": END of " + o, x.member(0, o, END), ends[o]);
        }
    }

    private static void cost() {
        due.sentence("The COST .. grows .. by how many pairs of a RULE and an object there are, a MEMBER of which"
            + " that the RULE looks at .. has another number behind it");
        ScoreDifferences x = Scenes.withObjects(3);
        x.rule(0, LOAD, 0, 1, 0);
        x.rule(1, GROUP, 0, 1, 0);
        x.rule(2, BEFORE, 0, 1, 0);
        x.rule(3, END, 0, 1, 0);
        x.rule(4, END, 0, 1, 0);
        due.is("none yet", x.told(0, 2), 0);
        x.change(0, 0, LOAD, 2);
        due.is("LOAD and twice END", x.told(0, 2), 3);
        x.change(0, 0, GROUP, 2);
        due.is("GROUP", x.told(0, 2), 4);
        x.change(0, 1, BEFORE, 2);
        due.is("BEFORE", x.told(0, 2), 5);
        x.change(0, 2, BEFORE, 0);
        due.is("BEFORE and two ENDS twice", x.told(0, 2), 10);
        x.change(0, 0, LOAD, 2);
        due.is("the same number", x.told(0, 2), 10);
        x.change(0, 0, LOAD, 1001);
        due.is("refused", x.told(0, 2), 10);
        ScoreDifferences y = Scenes.withObjects(1);
        y.change(0, 0, LOAD, 2);
        due.is("no RULE", y.told(0, 2), 0);
    }

    private static void costOfKindFive() {
        due.sentence("The COST .. (KIND 5: also BEFORE)");
        ScoreDifferences x = Scenes.withObjects(3);
        x.rule(5, END, 0, 1, 0);
        x.rule(5, BEFORE, 0, 1, 0);
        x.change(0, 0, LOAD, 4);
        due.is("END", x.told(0, 2), 1);
        x.change(0, 1, BEFORE, 0);
        due.is("BEFORE and END of one object are one pair", x.told(0, 2), 3);
        x.change(0, 1, GROUP, 3);
        due.is("GROUP is not looked at", x.told(0, 2), 3);
        x.change(0, 0, LOAD, 0);
        due.is("two ENDS", x.told(0, 2), 5);
        x.change(0, 1, BEFORE, -1);
        due.is("BEFORE alone, for both", x.told(0, 2), 7);
        ScoreDifferences others = Scenes.withObjects(3);
        for (int kind = 0; kind < 5; kind++) {
            others.rule(kind, LOAD, 0, 1, 0);
        }
        others.change(0, 1, BEFORE, 0);
        due.is("the other KINDS: not BEFORE", others.told(0, 2), 0);
    }

    private static void costOfAllInAll() {
        due.sentence("The COST of a PLAN grows: by 12 RULES and 40 objects");
        ScoreDifferences x = Scenes.withObjects(40);
        for (int r = 0; r < 12; r++) {
            x.rule(r % 6, END, 0, 1, 0);
        }
        for (int o = 1; o < 40; o++) {
            x.change(0, o, BEFORE, o - 1);
        }
        due.is("BEFORE alone: two of KIND 5", x.told(0, 2), 78);
        x.change(0, 0, LOAD, 1);
        due.is("all pairs", x.told(0, 2), 78 + 480);
        x.undo(0);
        due.is("all pairs by UNDOING", x.told(0, 2), 78 + 960);
    }
}
