import java.util.ArrayDeque;
import java.util.ArrayList;
import java.util.HashMap;
import java.util.List;
import java.util.Map;

/**
 * The document written a second time, as plainly as can be: all is reckoned from nothing, a CHANGE keeps a
 * whole copy of what was ahead of it, and nothing is shared with the class under test.
 */
final class Model {
    private static final int NONE = -1;
    private static final int STATE = -3;
    private static final int FULL = -4;
    private static final int NO_MEMBER = -1000000;

    private record Rule(int kind, int m, int c, int weight, int level) { }

    private record Ahead(List<int[]> objects, List<Long> keptAt, boolean inBatch) { }

    private record Kept(List<int[]> members, long[] scores) { }

    private static final class Plan {
        /** LOAD, GROUP and BEFORE of each object; END is always reckoned. */
        private List<int[]> objects = new ArrayList<>();
        private List<Long> keptAt = new ArrayList<>();
        private final List<Boolean> forgets = new ArrayList<>();
        private final ArrayDeque<Ahead> known = new ArrayDeque<>();
        private int changes;
        private int cost;
        private int found = NONE;
        private boolean batch;
    }

    private final List<Rule> rules = new ArrayList<>();
    private final List<Plan> plans = new ArrayList<>(List.of(new Plan()));
    private final List<Kept> keeps = new ArrayList<>();
    private int every;

    int object() {
        if (settled()) {
            return STATE;
        }
        Plan plan = plans.get(0);
        if (plan.objects.size() == 40) {
            return FULL;
        }
        List<Long> ahead = worths(plan.objects);
        plan.objects.add(new int[] {0, 0, -1});
        List<Long> behind = worths(plan.objects);
        for (int r = 0; r < rules.size(); r++) {
            plan.keptAt.set(r, plan.keptAt.get(r) + behind.get(r) - ahead.get(r));
        }
        return plan.objects.size() - 1;
    }

    int rule(int kind, int m, int c, int weight, int level) {
        boolean right = kind >= 0 && kind <= 5 && m >= 0 && m <= 3 && c >= -1000000 && c <= 1000000
            && weight >= 1 && weight <= 1000 && level >= 0 && level <= 2;
        if (!right) {
            return NONE;
        }
        if (settled()) {
            return STATE;
        }
        if (rules.size() == 12) {
            return FULL;
        }
        Rule rule = new Rule(kind, m, c, weight, level);
        rules.add(rule);
        plans.get(0).keptAt.add(worth(rule, plans.get(0).objects));
        plans.get(0).forgets.add(false);
        return rules.size() - 1;
    }

    int forget(int plan, int rule, boolean is) {
        if (noPlan(plan) || noRule(rule)) {
            return NONE;
        }
        return plans.get(plan).forgets.set(rule, is) ? 1 : 0;
    }

    int fork(int plan) {
        if (noPlan(plan)) {
            return NONE;
        }
        if (plans.size() == 4) {
            return FULL;
        }
        Plan source = plans.get(plan);
        Plan copy = new Plan();
        copy.objects = copyOf(source.objects);
        copy.keptAt.addAll(source.keptAt);
        copy.forgets.addAll(source.forgets);
        plans.add(copy);
        return plans.size() - 1;
    }

    int change(int plan, int object, int member, int v) {
        if (noPlan(plan)) {
            return NONE;
        }
        Plan p = plans.get(plan);
        List<int[]> behind = behind(p.objects, object, member, v);
        if (behind == null) {
            return NONE;
        }
        p.known.addLast(new Ahead(p.objects, p.keptAt, p.batch));
        if (p.known.size() > 60) {
            p.known.removeFirst();
        }
        p.keptAt = keptBehind(p, behind);
        int others = others(p.objects, behind);
        p.cost += pairs(p.objects, behind);
        p.objects = behind;
        p.changes++;
        if (every > 0 && p.changes % every == 0) {
            p.found = check(plan);
        }
        return others;
    }

    long attempt(int plan, int object, int member, int v, int level) {
        if (noPlan(plan) || noLevel(level)) {
            return -1;
        }
        Plan p = plans.get(plan);
        List<int[]> behind = behind(p.objects, object, member, v);
        return behind == null ? score(plan, level) : scoreOf(keptBehind(p, behind), level);
    }

    int undo(int plan) {
        if (noPlan(plan)) {
            return NONE;
        }
        Plan p = plans.get(plan);
        if (p.known.isEmpty() || (p.batch && !p.known.getLast().inBatch())) {
            return STATE;
        }
        takeBack(p);
        return p.known.size();
    }

    int begin(int plan) {
        if (noPlan(plan)) {
            return NONE;
        }
        Plan p = plans.get(plan);
        if (p.batch) {
            return STATE;
        }
        p.batch = true;
        return p.known.size();
    }

    int end(int plan, boolean stays) {
        if (noPlan(plan)) {
            return NONE;
        }
        Plan p = plans.get(plan);
        if (!p.batch) {
            return STATE;
        }
        int made = 0;
        for (Ahead ahead : p.known) {
            made += ahead.inBatch() ? 1 : 0;
        }
        for (int i = 0; i < made && !stays; i++) {
            takeBack(p);
        }
        p.batch = false;
        List<Ahead> left = new ArrayList<>(p.known);
        p.known.clear();
        for (Ahead ahead : left) {
            p.known.addLast(new Ahead(ahead.objects(), ahead.keptAt(), false));
        }
        return made;
    }

    int member(int plan, int object, int m) {
        if (noPlan(plan) || object < 0 || object >= plans.get(plan).objects.size() || m < 0 || m > 3) {
            return NO_MEMBER;
        }
        return look(plans.get(plan).objects, object, m);
    }

    long score(int plan, int level) {
        return noPlan(plan) || noLevel(level) ? -1 : scoreOf(plans.get(plan).keptAt, level);
    }

    long worth(int plan, int rule, int how) {
        if (noPlan(plan) || noRule(rule) || how < 0 || how > 1) {
            return -1;
        }
        Plan p = plans.get(plan);
        return how == 0 ? p.keptAt.get(rule) : worth(rules.get(rule), p.objects);
    }

    int check(int plan) {
        for (int r = 0; r < rules.size() && !noPlan(plan); r++) {
            if (worth(plan, r, 0) != worth(plan, r, 1)) {
                return r;
            }
        }
        return NONE;
    }

    int every(int n) {
        if (n < 0 || n > 100) {
            return NONE;
        }
        int was = every;
        every = n;
        return was;
    }

    int mend(int plan, int rule) {
        if (noPlan(plan) || noRule(rule)) {
            return NONE;
        }
        boolean was = worth(plan, rule, 0) != worth(plan, rule, 1);
        List<Long> mended = new ArrayList<>(plans.get(plan).keptAt);
        mended.set(rule, worth(plan, rule, 1));
        plans.get(plan).keptAt = mended;
        return was ? 1 : 0;
    }

    int keep(int plan) {
        if (noPlan(plan)) {
            return NONE;
        }
        if (keeps.size() == 20) {
            return FULL;
        }
        List<int[]> members = new ArrayList<>();
        for (int o = 0; o < plans.get(plan).objects.size(); o++) {
            members.add(new int[] {member(plan, o, 0), member(plan, o, 1), member(plan, o, 2), member(plan, o, 3)});
        }
        keeps.add(new Kept(members, new long[] {score(plan, 0), score(plan, 1), score(plan, 2)}));
        return keeps.size() - 1;
    }

    long kept(int number, int level) {
        return noKept(number) || noLevel(level) ? -1 : keeps.get(number).scores()[level];
    }

    int then(int number, int object, int m) {
        if (noKept(number) || object < 0 || object >= keeps.get(number).members().size() || m < 0 || m > 3) {
            return NO_MEMBER;
        }
        return keeps.get(number).members().get(object)[m];
    }

    int told(int plan, int what) {
        if (noPlan(plan) || what < 0 || what > 5) {
            return NONE;
        }
        Plan p = plans.get(plan);
        int forgetting = 0;
        for (boolean is : p.forgets) {
            forgetting += is ? 1 : 0;
        }
        return new int[] {p.changes, p.known.size(), p.cost, p.found, p.batch ? 1 : 0, forgetting}[what];
    }

    int all(int what) {
        if (what < 0 || what > 4) {
            return NONE;
        }
        return new int[] {plans.get(0).objects.size(), rules.size(), plans.size(), every, keeps.size()}[what];
    }

    private boolean settled() {
        return plans.size() > 1 || plans.get(0).changes > 0;
    }

    private boolean noPlan(int plan) {
        return plan < 0 || plan >= plans.size();
    }

    private boolean noRule(int rule) {
        return rule < 0 || rule >= rules.size();
    }

    private boolean noKept(int number) {
        return number < 0 || number >= keeps.size();
    }

    private static boolean noLevel(int level) {
        return level < 0 || level > 2;
    }

    private void takeBack(Plan p) {
        Ahead ahead = p.known.removeLast();
        p.cost += pairs(p.objects, ahead.objects());
        p.objects = ahead.objects();
        p.keptAt = ahead.keptAt();
    }

    /** The objects behind a CHANGE; null if it can't be made. */
    private static List<int[]> behind(List<int[]> objects, int object, int member, int v) {
        if (object < 0 || object >= objects.size() || member < 0 || member > 2) {
            return null;
        }
        int[] least = {-1000, 0, -1};
        int[] most = {1000, 20, objects.size() - 1};
        if (v < least[member] || v > most[member]) {
            return null;
        }
        List<int[]> behind = copyOf(objects);
        behind.get(object)[member] = v;
        return goesRound(behind, object) ? null : behind;
    }

    private static boolean goesRound(List<int[]> objects, int object) {
        int at = objects.get(object)[2];
        for (int i = 0; i < 50 && at != -1; i++) {
            if (at == object) {
                return true;
            }
            at = objects.get(at)[2];
        }
        return false;
    }

    private static List<int[]> copyOf(List<int[]> objects) {
        List<int[]> copy = new ArrayList<>();
        for (int[] object : objects) {
            copy.add(object.clone());
        }
        return copy;
    }

    private static int look(List<int[]> objects, int object, int m) {
        if (m < 3) {
            return objects.get(object)[m];
        }
        int before = objects.get(object)[2];
        return objects.get(object)[0] + (before == -1 ? 0 : look(objects, before, 3));
    }

    private List<Long> keptBehind(Plan p, List<int[]> behind) {
        List<Long> worthAhead = worths(p.objects);
        List<Long> worthBehind = worths(behind);
        List<Long> kept = new ArrayList<>();
        for (int r = 0; r < rules.size(); r++) {
            long more = p.forgets.get(r) ? 0 : worthBehind.get(r) - worthAhead.get(r);
            kept.add(p.keptAt.get(r) + more);
        }
        return kept;
    }

    private long scoreOf(List<Long> keptAt, int level) {
        long sum = 0;
        for (int r = 0; r < rules.size(); r++) {
            sum += rules.get(r).level() == level ? keptAt.get(r) : 0;
        }
        return sum;
    }

    private static int others(List<int[]> ahead, List<int[]> behind) {
        int count = 0;
        for (int o = 0; o < ahead.size(); o++) {
            for (int m = 0; m < 4; m++) {
                count += look(ahead, o, m) == look(behind, o, m) ? 0 : 1;
            }
        }
        return count;
    }

    private int pairs(List<int[]> ahead, List<int[]> behind) {
        int count = 0;
        for (Rule rule : rules) {
            for (int o = 0; o < ahead.size(); o++) {
                boolean other = look(ahead, o, rule.m()) != look(behind, o, rule.m());
                boolean otherBefore = look(ahead, o, 2) != look(behind, o, 2);
                count += other || (rule.kind() == 5 && otherBefore) ? 1 : 0;
            }
        }
        return count;
    }

    private List<Long> worths(List<int[]> objects) {
        List<Long> worths = new ArrayList<>();
        for (Rule rule : rules) {
            worths.add(worth(rule, objects));
        }
        return worths;
    }

    private static long worth(Rule rule, List<int[]> objects) {
        long each = 0;
        long sum = 0;
        long less = 0;
        Map<Integer, Long> crowds = new HashMap<>();
        for (int o = 0; o < objects.size(); o++) {
            int number = look(objects, o, rule.m());
            int before = look(objects, o, 2);
            each += number > rule.c() ? number - rule.c() : 0;
            sum += number;
            less += before != -1 && look(objects, before, rule.m()) > number ? 1 : 0;
            crowds.merge(number, 1L, Long::sum);
        }
        long pairs = 0;
        long tooMany = 0;
        for (long crowd : crowds.values()) {
            pairs += crowd * (crowd - 1) / 2;
            tooMany += Math.max(0, crowd - Math.max(0, rule.c()));
        }
        long[] kinds = {each, Math.max(0, sum - rule.c()), Math.abs(sum - rule.c()), pairs, tooMany, less};
        return kinds[rule.kind()] * rule.weight();
    }
}
