import java.util.ArrayList;
import java.util.List;
import java.util.Random;
import java.util.function.ToLongFunction;

/**
 * All promises: runs of random calls, right and wrong ones, answered as the Model answers them. Some take an
 * object's 512 calls; others are shorter and made again, so that all that can be read behind them is compared.
 */
public final class RandomRunsTest {
    private static final int RUNS = 1200;
    private static final int CALLS = 512;
    private static final int MOST_QUESTIONS = 200;

    private final Random random;
    private final ScoreDifferences real = new ScoreDifferences();
    private final Model model = new Model();
    private final int objects;
    private final int ruleCount;
    private final boolean wild;
    private final int length;
    private final Due due;
    private final List<ToLongFunction<ScoreDifferences>> made = new ArrayList<>();
    private final StringBuilder calls = new StringBuilder();
    private ScoreDifferences again;
    private int asked;

    private RandomRunsTest(long seed, Due due) {
        random = new Random(seed);
        objects = random.nextInt(5) == 0 ? 41 : random.nextInt(10);
        ruleCount = random.nextInt(5) == 0 ? 13 : random.nextInt(8);
        wild = random.nextBoolean();
        length = random.nextBoolean() ? CALLS : random.nextInt(CALLS - MOST_QUESTIONS);
        this.due = due;
    }

    public static void main(String[] args) {
        Due due = new Due();
        for (int run = 0; run < RUNS; run++) {
            RandomRunsTest test = new RandomRunsTest(run, due);
            if (!test.passes()) {
                System.out.println(test.calls + "in run " + run);
                break;
            }
        }
        due.finish();
    }

    private boolean passes() {
        int objectsToCome = objects;
        int rulesToCome = ruleCount;
        boolean right = true;
        while (right && made.size() < length) {
            int toCome = objectsToCome + rulesToCome;
            if (toCome == 0) {
                right = any();
            } else if (random.nextInt(5) == 0) {
                right = early();
            } else if (random.nextInt(toCome) < objectsToCome) {
                right = object();
                objectsToCome--;
            } else {
                right = rule();
                rulesToCome--;
            }
        }
        return right && (length == CALLS || sameInAll());
    }

    /** Calls behind which objects and RULES may still come. */
    private boolean early() {
        switch (random.nextInt(6)) {
            case 0: return keep();
            case 1: return forget();
            case 2: return begin();
            case 3: return mend();
            case 4: return attempt();
            default: return read();
        }
    }

    private boolean any() {
        int pick = random.nextInt(100);
        if (pick < 40) {
            return change();
        }
        if (pick < 48) {
            return attempt();
        }
        if (pick < 58) {
            return undo();
        }
        if (pick < 85) {
            return read();
        }
        switch (random.nextInt(9)) {
            case 0: return random.nextInt(8) == 0 ? fork() : forget();
            case 1: return begin();
            case 2: return end();
            case 3: return mend();
            case 4: return random.nextInt(3) == 0 ? keep() : forget();
            case 5: return every();
            case 6: return forget();
            case 7: return object();
            default: return rule();
        }
    }

    /** A number that is right most often, and else at or beyond the edges. */
    private int number(int least, int most) {
        if (random.nextInt(wild ? 12 : 60) == 0) {
            int[] odd = {least - 1, most + 1, -1, Integer.MIN_VALUE, Integer.MAX_VALUE, least, most, random.nextInt()};
            return odd[random.nextInt(odd.length)];
        }
        return most < least ? least : least + random.nextInt(most - least + 1);
    }

    private int plan() {
        return number(0, model.all(2) - 1);
    }

    private int anObject() {
        return number(0, model.all(0) - 1);
    }

    private int aRule() {
        return number(0, model.all(1) - 1);
    }

    private int aKept() {
        return number(0, model.all(4) - 1);
    }

    private int forMember(int member) {
        switch (member) {
            case 0: return random.nextInt(3) == 0 ? number(-1000, 1000) : number(-3, 3);
            case 1: return random.nextInt(3) == 0 ? number(0, 20) : number(0, 3);
            default: return number(-1, model.all(0) - 1);
        }
    }

    private boolean same(String call, ToLongFunction<ScoreDifferences> make, long want) {
        made.add(make);
        calls.append(call).append(" = ").append(want).append('\n');
        return agree(call, make.applyAsLong(real), want);
    }

    private boolean agree(String call, long got, long want) {
        due.is(call, got, want);
        return got == want;
    }

    private static String call(String name, Object... numbers) {
        StringBuilder text = new StringBuilder(name).append('(');
        for (Object number : numbers) {
            text.append(text.length() == name.length() + 1 ? "" : ", ").append(number);
        }
        return text.append(')').toString();
    }

    private boolean object() {
        return same("object()", ScoreDifferences::object, model.object());
    }

    private boolean rule() {
        int kind = number(0, 5);
        int m = number(0, 3);
        int c = random.nextInt(4) == 0 ? number(-1000000, 1000000) : number(-5, 5);
        int weight = number(1, 1000);
        int level = number(0, 2);
        return same(call("rule", kind, m, c, weight, level),
            x -> x.rule(kind, m, c, weight, level), model.rule(kind, m, c, weight, level));
    }

    private boolean forget() {
        int plan = plan();
        int rule = aRule();
        boolean is = random.nextInt(3) == 0;
        return same(call("forget", plan, rule, is), x -> x.forget(plan, rule, is), model.forget(plan, rule, is));
    }

    private boolean fork() {
        int plan = plan();
        return same(call("fork", plan), x -> x.fork(plan), model.fork(plan));
    }

    private boolean change() {
        int plan = plan();
        int object = anObject();
        int member = number(0, 2);
        int v = forMember(member);
        return same(call("change", plan, object, member, v),
            x -> x.change(plan, object, member, v), model.change(plan, object, member, v));
    }

    private boolean attempt() {
        int plan = plan();
        int object = anObject();
        int member = number(0, 2);
        int v = forMember(member);
        int level = number(0, 2);
        return same(call("attempt", plan, object, member, v, level),
            x -> x.attempt(plan, object, member, v, level), model.attempt(plan, object, member, v, level));
    }

    private boolean undo() {
        int plan = plan();
        return same(call("undo", plan), x -> x.undo(plan), model.undo(plan));
    }

    private boolean begin() {
        int plan = plan();
        return same(call("begin", plan), x -> x.begin(plan), model.begin(plan));
    }

    private boolean end() {
        int plan = plan();
        boolean stays = random.nextBoolean();
        return same(call("end", plan, stays), x -> x.end(plan, stays), model.end(plan, stays));
    }

    private boolean every() {
        int n = random.nextInt(3) == 0 ? number(0, 100) : number(0, 4);
        return same(call("every", n), x -> x.every(n), model.every(n));
    }

    private boolean mend() {
        int plan = plan();
        int rule = aRule();
        return same(call("mend", plan, rule), x -> x.mend(plan, rule), model.mend(plan, rule));
    }

    private boolean keep() {
        int plan = plan();
        return same(call("keep", plan), x -> x.keep(plan), model.keep(plan));
    }

    private boolean read() {
        int plan = plan();
        int object = anObject();
        int rule = aRule();
        int number = aKept();
        int m = number(0, 3);
        int level = number(0, 2);
        switch (random.nextInt(8)) {
            case 0: return same(call("member", plan, object, m), x -> x.member(plan, object, m), model.member(plan, object, m));
            case 1: return same(call("score", plan, level), x -> x.score(plan, level), model.score(plan, level));
            case 2: return same(call("check", plan), x -> x.check(plan), model.check(plan));
            case 3: return same(call("kept", number, level), x -> x.kept(number, level), model.kept(number, level));
            case 4: return same(call("then", number, object, m), x -> x.then(number, object, m), model.then(number, object, m));
            case 5: return worth(plan, rule, number(0, 1));
            case 6: return told(plan, number(0, 5));
            default: return all(number(0, 4));
        }
    }

    private boolean worth(int plan, int rule, int how) {
        return same(call("worth", plan, rule, how), x -> x.worth(plan, rule, how), model.worth(plan, rule, how));
    }

    private boolean told(int plan, int what) {
        return same(call("told", plan, what), x -> x.told(plan, what), model.told(plan, what));
    }

    private boolean all(int what) {
        return same(call("all", what), x -> x.all(what), model.all(what));
    }

    /** The run on a new object, which is good for so many questions more as an object has calls. */
    private ScoreDifferences again() {
        if (asked % MOST_QUESTIONS == 0) {
            again = new ScoreDifferences();
            for (ToLongFunction<ScoreDifferences> make : made) {
                make.applyAsLong(again);
            }
        }
        asked++;
        return again;
    }

    private boolean sameInAll() {
        boolean right = true;
        for (int what = -1; what <= 5; what++) {
            right = right && agree(call("all", what), again().all(what), model.all(what));
        }
        for (int plan = -1; plan <= model.all(2); plan++) {
            right = right && samePlan(plan);
        }
        for (int number = -1; number <= model.all(4); number++) {
            right = right && sameKept(number);
        }
        return right;
    }

    private boolean samePlan(int plan) {
        boolean right = agree(call("check", plan), again().check(plan), model.check(plan));
        for (int what = -1; what <= 6; what++) {
            right = right && agree(call("told", plan, what), again().told(plan, what), model.told(plan, what));
        }
        for (int level = -1; level <= 3; level++) {
            right = right && agree(call("score", plan, level), again().score(plan, level), model.score(plan, level));
        }
        for (int r = -1; r <= model.all(1); r++) {
            for (int how = -1; how <= 2; how++) {
                right = right && agree(call("worth", plan, r, how), again().worth(plan, r, how), model.worth(plan, r, how));
            }
        }
        for (int o = -1; o <= model.all(0); o++) {
            for (int m = -1; m <= 4; m++) {
                right = right && agree(call("member", plan, o, m), again().member(plan, o, m), model.member(plan, o, m));
            }
        }
        return right;
    }

    private boolean sameKept(int number) {
        boolean right = true;
        for (int level = -1; level <= 3; level++) {
            right = right && agree(call("kept", number, level), again().kept(number, level), model.kept(number, level));
        }
        for (int o = -1; o <= model.all(0); o++) {
            for (int m = -1; m <= 4; m++) {
                right = right && agree(call("then", number, o, m), again().then(number, o, m), model.then(number, o, m));
            }
        }
        return right;
    }
}
