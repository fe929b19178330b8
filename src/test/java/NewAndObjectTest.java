import java.util.function.Consumer;

/** Promises 1 and 2: a new object, and object(). */
public final class NewAndObjectTest {
    private static final Due due = new Due();

    public static void main(String[] args) {
        aNewOne();
        anEmptyOneRefuses();
        fortyObjects();
        membersAtFirst();
        stateBySeveralPlans();
        stateByAChange();
        noChangeNoState();
        firstRefusalNamed();
        whatAnObjectAddsToRules();
        due.finish();
    }

    private static void aNewOne() {
        due.sentence("No objects, RULES; PLAN 0; EVERY 0.");
        ScoreDifferences x = new ScoreDifferences();
        int[] first = {0, 0, 1, 0, 0};
        for (int what = 0; what < first.length; what++) {
            due.is("all(" + what + ")", x.all(what), first[what]);
        }
        int[] plan = {0, 0, 0, -1, 0, 0};
        for (int what = 0; what < plan.length; what++) {
            due.is("told(0, " + what + ")", x.told(0, what), plan[what]);
        }
        for (int level = 0; level < 3; level++) {
            due.is("score(0, " + level + ")", x.score(0, level), 0);
        }
        due.is("check(0)", x.check(0), -1);
        due.is("every(0)", x.every(0), 0);
        x.object();
        due.is("two have nothing in common", new ScoreDifferences().all(0), 0);
    }

    private static void anEmptyOneRefuses() {
        due.sentence("No objects, RULES; PLAN 0: so all that wants one is refused");
        Scene empty = new Scene(due, x -> { });
        empty.still("told(1, 0)", x -> x.told(1, 0), -1);
        empty.still("member(0, 0, 0)", x -> x.member(0, 0, 0), -1000000);
        empty.still("worth(0, 0, 0)", x -> x.worth(0, 0, 0), -1);
        empty.still("forget(0, 0, true)", x -> x.forget(0, 0, true), -1);
        empty.still("mend(0, 0)", x -> x.mend(0, 0), -1);
        empty.still("change(0, 0, 0, 0)", x -> x.change(0, 0, 0, 0), -1);
        empty.still("change(0, 0, 2, -1)", x -> x.change(0, 0, 2, -1), -1);
        empty.still("attempt(0, 0, 0, 0, 0)", x -> x.attempt(0, 0, 0, 0, 0), 0);
        empty.still("undo(0)", x -> x.undo(0), -3);
        empty.still("end(0, true)", x -> x.end(0, true), -3);
        empty.still("kept(0, 0)", x -> x.kept(0, 0), -1);
        empty.still("then(0, 0, 0)", x -> x.then(0, 0, 0), -1000000);
        empty.still("begin(1)", x -> x.begin(1), -1);
        empty.still("fork(1)", x -> x.fork(1), -1);
        empty.still("keep(1)", x -> x.keep(1), -1);
    }

    private static void fortyObjects() {
        due.sentence("OBJECTS are numbered as they come, 40 at most; FULL");
        ScoreDifferences x = new ScoreDifferences();
        for (int o = 0; o < 40; o++) {
            due.is("object()", x.object(), o);
            due.is("all(0)", x.all(0), o + 1);
        }
        due.is("the 40th can be changed", x.change(0, 39, 0, 7), 2);
        Scene full = new Scene(due, y -> {
            Scenes.objects(y, 40);
            Scenes.rules(y);
        });
        full.still("a 41st", ScoreDifferences::object, -4);
        full.still("member(0, 40, 0)", y -> y.member(0, 40, 0), -1000000);
    }

    private static void membersAtFirst() {
        due.sentence("At first LOAD and GROUP are 0, BEFORE is -1. (END is LOAD, then)");
        int[] first = {0, 0, -1, 0};
        ScoreDifferences x = Scenes.withObjects(40);
        for (int o = 0; o < 40; o++) {
            for (int m = 0; m < 4; m++) {
                due.is("member(0, " + o + ", " + m + ")", x.member(0, o, m), first[m]);
            }
        }
    }

    private static void stateBySeveralPlans() {
        due.sentence("STATE: there are several PLANS");
        due.is("with one PLAN", new ScoreDifferences().object(), 0);
        Scene two = new Scene(due, x -> {
            Scenes.young(x);
            x.fork(0);
        });
        two.still("with two", ScoreDifferences::object, -3);
        Scene four = new Scene(due, x -> {
            x.fork(0);
            x.fork(0);
            x.fork(0);
        });
        four.still("with four and no object", ScoreDifferences::object, -3);
    }

    private static void stateByAChange() {
        due.sentence("STATE: .. or there was a CHANGE");
        behindAChange("a CHANGE", x -> x.change(0, 0, 0, 4));
        behindAChange("a CHANGE that gives no MEMBER another number", x -> x.change(0, 0, 0, 0));
        behindAChange("an undone CHANGE", x -> {
            x.change(0, 0, 0, 4);
            x.undo(0);
        });
        behindAChange("a BATCH that was taken back", x -> {
            x.begin(0);
            x.change(0, 0, 0, 4);
            x.end(0, false);
        });
    }

    private static void behindAChange(String what, Consumer<ScoreDifferences> change) {
        Scene scene = new Scene(due, x -> {
            Scenes.young(x);
            change.accept(x);
        });
        scene.still("object() behind " + what, ScoreDifferences::object, -3);
    }

    private static void noChangeNoState() {
        due.sentence("STATE: .. there was a CHANGE: none of these is one");
        ScoreDifferences x = new ScoreDifferences();
        Scenes.young(x);
        x.change(0, 0, 0, 1001);
        x.change(0, 0, 2, 0);
        x.attempt(0, 0, 0, 5, 0);
        x.undo(0);
        x.begin(0);
        x.end(0, false);
        x.begin(0);
        x.forget(0, 0, true);
        x.mend(0, 0);
        x.every(1);
        x.keep(0);
        x.fork(1);
        due.is("object()", x.object(), 5);
        due.is("rule()", x.rule(0, 0, 0, 1, 0), 6);
    }

    private static void firstRefusalNamed() {
        due.sentence("STATE: ..; FULL. (both: the first that is named)");
        Scene both = new Scene(due, x -> {
            Scenes.objects(x, 40);
            x.change(0, 0, 0, 1);
        });
        both.still("object()", ScoreDifferences::object, -3);
    }

    private static void whatAnObjectAddsToRules() {
        due.sentence("KEPT at .. 0 at first, and what .. that of an object, makes it worth FROM NOTHING more"
            + " is put to it (also if it FORGETS)");
        ScoreDifferences x = new ScoreDifferences();
        x.rule(0, 0, -5, 2, 0);
        x.rule(1, 0, -7, 1, 1);
        x.rule(3, 2, 0, 3, 2);
        due.is("each above, no object", x.score(0, 0), 0);
        due.is("sum above, no object", x.score(0, 1), 7);
        due.is("equal BEFORE, no object", x.score(0, 2), 0);
        x.forget(0, 0, true);
        x.object();
        due.is("each above, also as it FORGETS", x.score(0, 0), 10);
        due.is("equal BEFORE, one object", x.score(0, 2), 0);
        x.object();
        x.object();
        due.is("each above, three objects", x.score(0, 0), 30);
        due.is("sum above", x.score(0, 1), 7);
        due.is("equal BEFORE", x.score(0, 2), 9);
        due.is("no RULE is FALSE", x.check(0), -1);
        due.is("no COST", x.told(0, 2), 0);
    }
}
