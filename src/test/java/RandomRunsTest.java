import java.util.Random;

/** All promises: runs of 512 random calls, right and wrong ones, answered as the Model answers them. */
public final class RandomRunsTest {
    private static final int RUNS = 400;
    private static final int CALLS = 512;

    private final Random random;
    private final ScoreDifferences real = new ScoreDifferences();
    private final Model model = new Model();
    private final int objects;
    private final int ruleCount;
    private final boolean wild;
    private final Due due;
    private final StringBuilder calls = new StringBuilder();

    private RandomRunsTest(long seed, Due due) {
        random = new Random(seed);
        objects = random.nextInt(5) == 0 ? 41 : random.nextInt(10);
        ruleCount = random.nextInt(5) == 0 ? 13 : random.nextInt(8);
        wild = random.nextBoolean();
        this.due = due;
    }

    public static void main(String[] args) {
        Due due = new Due();
        for (int run = 0; run < RUNS; run++) {
            if (!new RandomRunsTest(run, due).passes()) {
                System.out.println("in run " + run);
                break;
            }
        }
        due.finish();
    }

    private boolean passes() {
        int made = 0;
        int ruled = 0;
        for (int i = 0; i < CALLS; i++) {
            boolean right;
            if (made + ruled < objects + ruleCount) {
                boolean next = random.nextInt(objects + ruleCount - made - ruled) < objects - made;
                right = next ? object() : rule();
                made += next ? 1 : 0;
                ruled += next ? 0 : 1;
                right = right && (random.nextInt(4) != 0 || early());
            } else {
                right = any();
            }
            if (!right || !sameState(i)) {
                System.out.println(calls);
                return false;
            }
        }
        return true;
    }

    private boolean early() {
        switch (random.nextInt(4)) {
            case 0: return keep();
            case 1: return forget();
            case 2: return begin();
            default: return mend();
        }
    }

    private boolean any() {
        int pick = random.nextInt(100);
        if (pick < 45) {
            return change();
        }
        if (pick < 55) {
            return attempt();
        }
        if (pick < 68) {
            return undo();
        }
        switch (random.nextInt(14)) {
            case 0: return random.nextInt(8) == 0 ? fork() : forget();
            case 1: return begin();
            case 2: return end();
            case 3: return mend();
            case 4: return random.nextInt(3) == 0 ? keep() : forget();
            case 5: return every();
            case 6: return forget();
            case 7: return object();
            case 8: return rule();
            default: return readers();
        }
    }

    /** A number that is right most often, and else at or beyond the edges. */
    private int number(int least, int most) {
        if (random.nextInt(wild ? 12 : 60) == 0) {
            int[] odd = {least - 1, most + 1, -1, Integer.MIN_VALUE, Integer.MAX_VALUE, least, most, random.nextInt()};
            return odd[random.nextInt(odd.length)];
        }
        return most < least ? least : least + random.nextInt(most - least + 1);
    }

    private int plan() {
        return number(0, Math.max(0, model.all(2) - 1));
    }

    private int anObject() {
        return number(0, model.all(0) - 1);
    }

    private int aRule() {
        return number(0, model.all(1) - 1);
    }

    private int forMember(int member) {
        switch (member) {
            case 0: return random.nextInt(3) == 0 ? number(-1000, 1000) : number(-3, 3);
            case 1: return random.nextInt(3) == 0 ? number(0, 20) : number(0, 3);
            default: return number(-1, model.all(0) - 1);
        }
    }

    private boolean same(String call, long got, long want) {
        calls.append(call).append(" = ").append(want).append('\n');
        return agree(call, got, want);
    }

    private boolean agree(String call, long got, long want) {
        due.is(call, got, want);
        return got == want;
    }

    private boolean object() {
        return same("object()", real.object(), model.object());
    }

    private boolean rule() {
        int kind = number(0, 5);
        int m = number(0, 3);
        int c = random.nextInt(4) == 0 ? number(-1000000, 1000000) : number(-5, 5);
        int weight = number(1, 1000);
        int level = number(0, 2);
        return same("rule(" + kind + ", " + m + ", " + c + ", " + weight + ", " + level + ")",
            real.rule(kind, m, c, weight, level), model.rule(kind, m, c, weight, level));
    }

    private boolean forget() {
        int plan = plan();
        int rule = aRule();
        boolean is = random.nextInt(3) == 0;
        return same("forget(" + plan + ", " + rule + ", " + is + ")",
            real.forget(plan, rule, is), model.forget(plan, rule, is));
    }

    private boolean fork() {
        int plan = plan();
        return same("fork(" + plan + ")", real.fork(plan), model.fork(plan));
    }

    private boolean change() {
        int plan = plan();
        int object = anObject();
        int member = number(0, 2);
        int v = forMember(member);
        return same("change(" + plan + ", " + object + ", " + member + ", " + v + ")",
            real.change(plan, object, member, v), model.change(plan, object, member, v));
    }

    private boolean attempt() {
        int plan = plan();
        int object = anObject();
        int member = number(0, 2);
        int v = forMember(member);
        int level = number(0, 2);
        return same("attempt(" + plan + ", " + object + ", " + member + ", " + v + ", " + level + ")",
            real.attempt(plan, object, member, v, level), model.attempt(plan, object, member, v, level));
    }

    private boolean undo() {
        int plan = plan();
        return same("undo(" + plan + ")", real.undo(plan), model.undo(plan));
    }

    private boolean begin() {
        int plan = plan();
        return same("begin(" + plan + ")", real.begin(plan), model.begin(plan));
    }

    private boolean end() {
        int plan = plan();
        boolean stays = random.nextBoolean();
        return same("end(" + plan + ", " + stays + ")", real.end(plan, stays), model.end(plan, stays));
    }

    private boolean every() {
        int n = random.nextInt(3) == 0 ? number(0, 100) : number(0, 4);
        return same("every(" + n + ")", real.every(n), model.every(n));
    }

    private boolean mend() {
        int plan = plan();
        int rule = aRule();
        return same("mend(" + plan + ", " + rule + ")", real.mend(plan, rule), model.mend(plan, rule));
    }

    private boolean keep() {
        int plan = plan();
        return same("keep(" + plan + ")", real.keep(plan), model.keep(plan));
    }

    private boolean readers() {
        int plan = plan();
        int a = random.nextInt(4) == 0 ? number(0, 20) : number(0, model.all(4) - 1);
        int b = anObject();
        int c = number(0, 5);
        String numbers = "(" + plan + ", " + a + ", " + b + ", " + c + ")";
        return same("member " + numbers, real.member(plan, b, c), model.member(plan, b, c))
            && same("score " + numbers, real.score(plan, c), model.score(plan, c))
            && same("worth " + numbers, real.worth(plan, b, c), model.worth(plan, b, c))
            && same("check " + numbers, real.check(plan), model.check(plan))
            && same("kept " + numbers, real.kept(a, c), model.kept(a, c))
            && same("then " + numbers, real.then(a, b, c), model.then(a, b, c))
            && same("told " + numbers, real.told(plan, c), model.told(plan, c))
            && same("all " + numbers, real.all(c), model.all(c));
    }

    /** One plan after each call, all of them and what was kept now and then. */
    private boolean sameState(int i) {
        boolean whole = i % 32 == 31;
        boolean right = true;
        for (int plan = 0; plan <= 4 && right; plan++) {
            right = !(whole || plan == i % 4) || samePlan(plan);
        }
        for (int number = 0; number <= 20 && right && whole; number++) {
            right = sameKept(number);
        }
        for (int what = -1; what <= 5; what++) {
            right = right && agree("all " + what, real.all(what), model.all(what));
        }
        return right;
    }

    private boolean samePlan(int plan) {
        boolean right = agree("check " + plan, real.check(plan), model.check(plan));
        for (int what = -1; what <= 6; what++) {
            right = right && agree("told " + plan + " " + what, real.told(plan, what), model.told(plan, what));
            right = right && agree("score " + plan + " " + what, real.score(plan, what), model.score(plan, what));
        }
        for (int r = -1; r <= 12; r++) {
            for (int how = -1; how <= 2; how++) {
                right = right && agree("worth " + plan + " " + r + " " + how,
                    real.worth(plan, r, how), model.worth(plan, r, how));
            }
        }
        for (int o = -1; o <= model.all(0); o++) {
            for (int m = -1; m <= 4; m++) {
                right = right && agree("member " + plan + " " + o + " " + m,
                    real.member(plan, o, m), model.member(plan, o, m));
            }
        }
        return right;
    }

    private boolean sameKept(int number) {
        boolean right = true;
        for (int level = -1; level <= 3; level++) {
            right = right && agree("kept " + number + " " + level, real.kept(number, level), model.kept(number, level));
        }
        for (int o = -1; o <= 40; o++) {
            for (int m = -1; m <= 4; m++) {
                right = right && agree("then " + number + " " + o + " " + m,
                    real.then(number, o, m), model.then(number, o, m));
            }
        }
        return right;
    }
}
