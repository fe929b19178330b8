/**
 * Plans whose scores are kept by differences. The words in capitals are the document's terms.
 *
 * <p>A CHANGE is first laid out in a second table of MEMBERS beside the one that holds: what it adds
 * to each RULE, what it costs and what an attempt at it would score are all told by comparing the two.
 */
public final class ScoreDifferences {
    public static final int NONE = -1, STATE = -3, FULL = -4;

    private static final int MOST_OBJECTS = 40;
    private static final int MOST_RULES = 12;
    private static final int MOST_PLANS = 4;
    private static final int MOST_KNOWN = 60;
    private static final int MOST_SNAPSHOTS = 20;
    private static final int MOST_EVERY = 100;

    private static final int LOAD = 0;
    private static final int GROUP = 1;
    private static final int BEFORE = 2;
    private static final int END = 3;
    private static final int MEMBERS = 4;
    private static final int LEVELS = 3;

    private static final int MOST_LOAD = 1000;
    private static final int MOST_GROUP = 20;
    private static final int MOST_BOUND = 1000000;
    private static final int MOST_WEIGHT = 1000;
    private static final int NO_OBJECT = -1;
    private static final int NO_MEMBER = -1000000;

    private static final int EACH_ABOVE = 0;
    private static final int SUM_ABOVE = 1;
    private static final int SUM_OFF = 2;
    private static final int EQUAL_PAIRS = 3;
    private static final int CROWDS = 4;
    private static final int LESS_THAN_BEFORE = 5;

    private final Rulebook book;
    private final Plan[] plans;
    private final Snapshot[] snapshots;
    private int planCount;
    private int snapshotCount;
    private int checkEvery;

    public ScoreDifferences() {
        Rulebook fresh = new Rulebook();
        book = fresh;
        plans = new Plan[MOST_PLANS];
        plans[0] = new Plan(fresh);
        planCount = 1;
        snapshots = new Snapshot[MOST_SNAPSHOTS];
    }

    public int object() {
        if (isSettled()) {
            return STATE;
        }
        return plans[0].now.objects >= MOST_OBJECTS ? FULL : plans[0].addObject();
    }

    public int rule(int kind, int m, int c, int weight, int level) {
        if (!isRule(kind, m, c, weight, level)) {
            return NONE;
        }
        if (isSettled()) {
            return STATE;
        }
        if (book.size >= MOST_RULES) {
            return FULL;
        }
        int number = book.add(new Rule(kind, m, c, weight, level));
        plans[0].keptAt[number] = plans[0].fromNothing(number);
        return number;
    }

    public int forget(int plan, int rule, boolean is) {
        Plan chosen = planAt(plan);
        if (chosen == null || !book.has(rule)) {
            return NONE;
        }
        boolean was = chosen.forgets[rule];
        chosen.forgets[rule] = is;
        return oneIf(was);
    }

    public int fork(int plan) {
        Plan source = planAt(plan);
        if (source == null) {
            return NONE;
        }
        if (planCount >= MOST_PLANS) {
            return FULL;
        }
        Plan copy = new Plan(book);
        copy.becomeLike(source);
        plans[planCount] = copy;
        planCount++;
        return planCount - 1;
    }

    public int change(int plan, int object, int member, int v) {
        Plan chosen = planAt(plan);
        return chosen == null ? NONE : chosen.makeChange(object, member, v, checkEvery);
    }

    public long attempt(int plan, int object, int member, int v, int level) {
        Plan chosen = planAt(plan);
        return chosen == null || !isLevel(level) ? NONE : chosen.scoreBehind(object, member, v, level);
    }

    public int undo(int plan) {
        Plan chosen = planAt(plan);
        if (chosen == null) {
            return NONE;
        }
        if (chosen.undoable() == 0) {
            return STATE;
        }
        chosen.takeBack();
        return chosen.history.known;
    }

    public int begin(int plan) {
        Plan chosen = planAt(plan);
        if (chosen == null) {
            return NONE;
        }
        if (chosen.batchBegun) {
            return STATE;
        }
        chosen.batchBegun = true;
        chosen.batchKnown = 0;
        return chosen.history.known;
    }

    public int end(int plan, boolean stays) {
        Plan chosen = planAt(plan);
        if (chosen == null) {
            return NONE;
        }
        return chosen.batchBegun ? chosen.closeBatch(stays) : STATE;
    }

    public int member(int plan, int object, int m) {
        Plan chosen = planAt(plan);
        return chosen == null ? NO_MEMBER : chosen.now.read(object, m);
    }

    public long score(int plan, int level) {
        Plan chosen = planAt(plan);
        return chosen == null || !isLevel(level) ? NONE : chosen.scoreNow(level);
    }

    public long worth(int plan, int rule, int how) {
        Plan chosen = planAt(plan);
        if (chosen == null || !book.has(rule) || !within(how, 0, 1)) {
            return NONE;
        }
        return how == 0 ? chosen.keptAt[rule] : chosen.fromNothing(rule);
    }

    public int check(int plan) {
        Plan chosen = planAt(plan);
        return chosen == null ? NONE : chosen.firstFalse();
    }

    public int every(int n) {
        if (!within(n, 0, MOST_EVERY)) {
            return NONE;
        }
        int was = checkEvery;
        checkEvery = n;
        return was;
    }

    public int mend(int plan, int rule) {
        Plan chosen = planAt(plan);
        if (chosen == null || !book.has(rule)) {
            return NONE;
        }
        boolean was = chosen.isFalse(rule);
        chosen.keptAt[rule] = chosen.fromNothing(rule);
        return oneIf(was);
    }

    public int keep(int plan) {
        Plan chosen = planAt(plan);
        if (chosen == null) {
            return NONE;
        }
        if (snapshotCount >= MOST_SNAPSHOTS) {
            return FULL;
        }
        snapshots[snapshotCount] = new Snapshot(chosen);
        snapshotCount++;
        return snapshotCount - 1;
    }

    public long kept(int number, int level) {
        Snapshot chosen = snapshotAt(number);
        return chosen == null || !isLevel(level) ? NONE : chosen.scores[level];
    }

    public int then(int number, int object, int m) {
        Snapshot chosen = snapshotAt(number);
        return chosen == null ? NO_MEMBER : chosen.members.read(object, m);
    }

    public int told(int plan, int what) {
        Plan chosen = planAt(plan);
        return chosen == null ? NONE : chosen.figure(what);
    }

    public int all(int what) {
        switch (what) {
            case 0: return plans[0].now.objects;
            case 1: return book.size;
            case 2: return planCount;
            case 3: return checkEvery;
            case 4: return snapshotCount;
            default: return NONE;
        }
    }

    /** Whether objects and RULES may come no more: PLANS must all have the same ones from their start. */
    private boolean isSettled() {
        return planCount > 1 || plans[0].changes > 0;
    }

    private Plan planAt(int plan) {
        return plan >= 0 && plan < planCount ? plans[plan] : null;
    }

    private Snapshot snapshotAt(int number) {
        return number >= 0 && number < snapshotCount ? snapshots[number] : null;
    }

    private static boolean isRule(int kind, int m, int c, int weight, int level) {
        return within(kind, EACH_ABOVE, LESS_THAN_BEFORE)
            && within(m, LOAD, END)
            && within(c, -MOST_BOUND, MOST_BOUND)
            && within(weight, 1, MOST_WEIGHT)
            && isLevel(level);
    }

    private static boolean isLevel(int level) {
        return within(level, 0, LEVELS - 1);
    }

    private static boolean within(int number, int least, int most) {
        return number >= least && number <= most;
    }

    private static int oneIf(boolean is) {
        return is ? 1 : 0;
    }

    /** The MEMBERS of all objects at one time: a row for each MEMBER, a column for each object. */
    private static final class Table {
        private final int[][] rows = new int[MEMBERS][MOST_OBJECTS];
        private int objects;

        boolean has(int object) {
            return object >= 0 && object < objects;
        }

        int read(int object, int m) {
            return has(object) && within(m, LOAD, END) ? rows[m][object] : NO_MEMBER;
        }

        /** The caller has seen that there is room. */
        void addObject() {
            rows[BEFORE][objects] = NO_OBJECT;
            objects++;
        }

        void becomeLike(Table other) {
            objects = other.objects;
            for (int m = 0; m < MEMBERS; m++) {
                System.arraycopy(other.rows[m], 0, rows[m], 0, objects);
            }
        }

        /** Whether the CHANGE can be made: there are such object and MEMBER, and it is not REFUSED. */
        boolean takes(int object, int member, int v) {
            if (!has(object)) {
                return false;
            }
            switch (member) {
                case LOAD: return within(v, -MOST_LOAD, MOST_LOAD);
                case GROUP: return within(v, 0, MOST_GROUP);
                case BEFORE: return v == NO_OBJECT || (has(v) && !leads(v, object));
                default: return false;
            }
        }

        /** Whether an object, its BEFORE, that one's BEFORE, and so on come to another (or are it). */
        private boolean leads(int from, int to) {
            int at = from;
            for (int steps = 0; steps < objects && has(at); steps++) {
                if (at == to) {
                    return true;
                }
                at = rows[BEFORE][at];
            }
            return false;
        }

        /** Makes a CHANGE that the table takes; ENDS follow. */
        void put(int object, int member, int v) {
            rows[member][object] = v;
            int before = rows[BEFORE][object];
            int due = rows[LOAD][object] + (has(before) ? rows[END][before] : 0);
            int more = due - rows[END][object];
            // All that lead to the object have its END in theirs, so theirs grow by as much as its own.
            for (int o = 0; o < objects && more != 0; o++) {
                if (leads(o, object)) {
                    rows[END][o] += more;
                }
            }
        }

        int countOther(Table other) {
            int count = 0;
            for (int m = 0; m < MEMBERS; m++) {
                for (int o = 0; o < objects; o++) {
                    count += oneIf(rows[m][o] != other.rows[m][o]);
                }
            }
            return count;
        }
    }

    private static final class Rule {
        private final int kind;
        private final int looksAt;
        private final int bound;
        private final int weight;
        private final int level;

        Rule(int kind, int looksAt, int bound, int weight, int level) {
            this.kind = kind;
            this.looksAt = looksAt;
            this.bound = bound;
            this.weight = weight;
            this.level = level;
        }

        long fromNothing(Table table) {
            int[] row = table.rows[looksAt];
            int objects = table.objects;
            switch (kind) {
                case EACH_ABOVE: return weight * eachAbove(row, objects);
                case SUM_ABOVE: return weight * Math.max(0L, sum(row, objects) - bound);
                case SUM_OFF: return weight * Math.abs(sum(row, objects) - bound);
                case EQUAL_PAIRS: return weight * equalPairs(row, objects);
                case CROWDS: return weight * crowds(row, objects);
                default: return weight * lessThanBefore(row, table);
            }
        }

        private long eachAbove(int[] row, int objects) {
            long above = 0;
            for (int o = 0; o < objects; o++) {
                above += Math.max(0, row[o] - bound);
            }
            return above;
        }

        private static long sum(int[] row, int objects) {
            long sum = 0;
            for (int o = 0; o < objects; o++) {
                sum += row[o];
            }
            return sum;
        }

        private static long equalPairs(int[] row, int objects) {
            long pairs = 0;
            for (int o = 0; o < objects; o++) {
                pairs += countOf(row[o], row, 0, o);
            }
            return pairs;
        }

        private long crowds(int[] row, int objects) {
            int room = Math.max(0, bound);
            long tooMany = 0;
            for (int o = 0; o < objects; o++) {
                boolean isFirst = countOf(row[o], row, 0, o) == 0;
                if (isFirst) {
                    tooMany += Math.max(0, countOf(row[o], row, o, objects) - room);
                }
            }
            return tooMany;
        }

        private static int countOf(int number, int[] row, int from, int to) {
            int count = 0;
            for (int o = from; o < to; o++) {
                if (row[o] == number) {
                    count++;
                }
            }
            return count;
        }

        private static long lessThanBefore(int[] row, Table table) {
            long count = 0;
            for (int o = 0; o < table.objects; o++) {
                int before = table.rows[BEFORE][o];
                count += oneIf(table.has(before) && row[before] > row[o]);
            }
            return count;
        }

        /** How many objects have, in two tables, other numbers where the RULE looks. */
        int countTouched(Table ahead, Table behind) {
            int count = 0;
            for (int o = 0; o < ahead.objects; o++) {
                boolean other = ahead.rows[looksAt][o] != behind.rows[looksAt][o];
                boolean otherBefore = kind == LESS_THAN_BEFORE && ahead.rows[BEFORE][o] != behind.rows[BEFORE][o];
                count += oneIf(other || otherBefore);
            }
            return count;
        }
    }

    /** The RULES, which all PLANS share. */
    private static final class Rulebook {
        private final Rule[] rules = new Rule[MOST_RULES];
        private int size;

        boolean has(int rule) {
            return rule >= 0 && rule < size;
        }

        /** The caller has seen that there is room. */
        int add(Rule rule) {
            rules[size] = rule;
            size++;
            return size - 1;
        }
    }

    /** The CHANGES that a PLAN knows, in a ring: the one that comes when it is full takes the oldest's place. */
    private static final class History {
        private final int[] objects = new int[MOST_KNOWN];
        private final int[] members = new int[MOST_KNOWN];
        private final int[] numbers = new int[MOST_KNOWN];
        private final long[][] keptAt = new long[MOST_KNOWN][MOST_RULES];
        private int next;
        private int known;

        /** Notes what a CHANGE will overwrite. */
        void push(int object, int member, int number, long[] keptAhead) {
            objects[next] = object;
            members[next] = member;
            numbers[next] = number;
            System.arraycopy(keptAhead, 0, keptAt[next], 0, MOST_RULES);
            next = next + 1 < MOST_KNOWN ? next + 1 : 0;
            known = Math.min(known + 1, MOST_KNOWN);
        }

        /** The caller has seen that one is known: where the latest stood, which is known no more. */
        int pop() {
            next = next > 0 ? next - 1 : MOST_KNOWN - 1;
            known--;
            return next;
        }
    }

    private static final class Plan {
        private final Rulebook book;
        private final Table now = new Table();
        /** What now would become: filled anew by each call that looks at it. */
        private final Table behind = new Table();
        private final long[] keptAt = new long[MOST_RULES];
        private final boolean[] forgets = new boolean[MOST_RULES];
        private final History history = new History();
        private int changes;
        private int cost;
        private int foundFalse = NONE;
        private boolean batchBegun;
        /** How many of the known CHANGES were made in the BATCH that is begun. */
        private int batchKnown;

        Plan(Rulebook book) {
            this.book = book;
        }

        void becomeLike(Plan source) {
            now.becomeLike(source.now);
            for (int r = 0; r < book.size; r++) {
                keptAt[r] = source.keptAt[r];
                forgets[r] = source.forgets[r];
            }
        }

        /** The caller has seen that there is room. */
        int addObject() {
            behind.becomeLike(now);
            behind.addObject();
            for (int r = 0; r < book.size; r++) {
                keptAt[r] += gain(r);
            }
            now.becomeLike(behind);
            return now.objects - 1;
        }

        long fromNothing(int rule) {
            return book.rules[rule].fromNothing(now);
        }

        boolean isFalse(int rule) {
            return keptAt[rule] != book.rules[rule].fromNothing(now);
        }

        int firstFalse() {
            for (int r = 0; r < book.size; r++) {
                if (isFalse(r)) {
                    return r;
                }
            }
            return NONE;
        }

        long scoreNow(int level) {
            long sum = 0;
            for (int r = 0; r < book.size; r++) {
                if (book.rules[r].level == level) {
                    sum += keptAt[r];
                }
            }
            return sum;
        }

        long scoreBehind(int object, int member, int v, int level) {
            long sum = scoreNow(level);
            if (!now.takes(object, member, v)) {
                return sum;
            }
            layOut(object, member, v);
            for (int r = 0; r < book.size; r++) {
                if (book.rules[r].level == level) {
                    sum += gainUnlessForgotten(r);
                }
            }
            return sum;
        }

        int makeChange(int object, int member, int v, int checkEvery) {
            if (!now.takes(object, member, v)) {
                return NONE;
            }
            history.push(object, member, now.rows[member][object], keptAt);
            if (batchBegun) {
                batchKnown = Math.min(batchKnown + 1, MOST_KNOWN);
            }
            layOut(object, member, v);
            for (int r = 0; r < book.size; r++) {
                keptAt[r] += gainUnlessForgotten(r);
            }
            int others = now.countOther(behind);
            moveOn();
            changes++;
            if (checkEvery > 0 && changes % checkEvery == 0) {
                foundFalse = firstFalse();
            }
            return others;
        }

        /** How many CHANGES may be undone: in a BATCH only its own. */
        int undoable() {
            return batchBegun ? batchKnown : history.known;
        }

        /** The caller has seen that one may be undone. */
        void takeBack() {
            int latest = history.pop();
            if (batchBegun) {
                batchKnown--;
            }
            layOut(history.objects[latest], history.members[latest], history.numbers[latest]);
            // Not by differences: a RULE may have begun to FORGET, or been mended, since the CHANGE.
            System.arraycopy(history.keptAt[latest], 0, keptAt, 0, MOST_RULES);
            moveOn();
        }

        int closeBatch(boolean stays) {
            int made = batchKnown;
            for (int i = 0; i < made && !stays; i++) {
                takeBack();
            }
            batchBegun = false;
            return made;
        }

        int figure(int what) {
            switch (what) {
                case 0: return changes;
                case 1: return history.known;
                case 2: return cost;
                case 3: return foundFalse;
                case 4: return oneIf(batchBegun);
                case 5: return countForgetting();
                default: return NONE;
            }
        }

        private int countForgetting() {
            int count = 0;
            for (int r = 0; r < book.size; r++) {
                count += oneIf(forgets[r]);
            }
            return count;
        }

        private void layOut(int object, int member, int v) {
            behind.becomeLike(now);
            behind.put(object, member, v);
        }

        /** Pays for the CHANGE that is laid out, and makes it hold. */
        private void moveOn() {
            for (int r = 0; r < book.size; r++) {
                cost += book.rules[r].countTouched(now, behind);
            }
            now.becomeLike(behind);
        }

        private long gainUnlessForgotten(int rule) {
            boolean stays = forgets[rule] || book.rules[rule].countTouched(now, behind) == 0;
            return stays ? 0 : gain(rule);
        }

        private long gain(int rule) {
            return book.rules[rule].fromNothing(behind) - book.rules[rule].fromNothing(now);
        }
    }

    /** SCORES and MEMBERS of a PLAN as they were when it was kept. */
    private static final class Snapshot {
        private final Table members = new Table();
        private final long[] scores = new long[LEVELS];

        Snapshot(Plan plan) {
            members.becomeLike(plan.now);
            for (int level = 0; level < LEVELS; level++) {
                scores[level] = plan.scoreNow(level);
            }
        }
    }
}
