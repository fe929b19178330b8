/** Promises 11, 12 and 13: member(), score() and worth(). */
public final class ReadTest {
    private static final Due due = new Due();
    private static final int LEAST = Integer.MIN_VALUE;
    private static final int MOST = Integer.MAX_VALUE;

    public static void main(String[] args) {
        Scene read = new Scene(due, ReadTest::make);
        Scene full = new Scene(due, Scenes::full);
        members(read);
        noSuchMember(read, full);
        scores(read);
        noSuchScore(read, full);
        worths(read);
        noSuchWorth(read, full);
        due.finish();
    }

    private static void make(ScoreDifferences x) {
        Scenes.objects(x, 2);
        x.rule(2, 3, 10, 3, 1);
        x.rule(0, 1, 1, 2, 1);
        x.rule(3, 0, 0, 1, 2);
        x.change(0, 0, 0, 4);
        x.change(0, 1, 0, -3);
        x.change(0, 1, 1, 5);
        x.change(0, 1, 2, 0);
    }

    private static void members(Scene read) {
        due.sentence("MEMBER m of an object in a PLAN");
        int[][] members = {{4, 0, -1, 4}, {-3, 5, 0, 1}};
        for (int o = 0; o < 2; o++) {
            for (int m = 0; m < 4; m++) {
                int object = o;
                int member = m;
                read.still("member(0, " + o + ", " + m + ")", x -> x.member(0, object, member), members[o][m]);
            }
        }
    }

    private static void noSuchMember(Scene read, Scene full) {
        due.sentence("member: -1000000: there is no such thing.");
        int[][] wrong = {
            {-1, 0, 0}, {1, 0, 0}, {4, 0, 0}, {LEAST, 0, 0}, {MOST, 0, 0},
            {0, -1, 0}, {0, 2, 0}, {0, 40, 0}, {0, LEAST, 0}, {0, MOST, 0},
            {0, 0, -1}, {0, 0, 4}, {0, 0, LEAST}, {0, 0, MOST},
        };
        for (int[] w : wrong) {
            read.still("member(" + w[0] + ", " + w[1] + ", " + w[2] + ")",
                x -> x.member(w[0], w[1], w[2]), -1000000);
        }
        full.still("the last of all", x -> x.member(3, 39, 3), 0);
        full.still("a fifth PLAN", x -> x.member(4, 39, 3), -1000000);
        full.still("a 41st object", x -> x.member(3, 40, 3), -1000000);
        full.still("a fifth MEMBER", x -> x.member(3, 39, 4), -1000000);
    }

    private static void scores(Scene read) {
        due.sentence("The SCORE of a LEVEL is the sum of what its RULES are KEPT at.");
        read.still("no RULE has the LEVEL", x -> x.score(0, 0), 0);
        read.still("two have it", x -> x.score(0, 1), 23);
        read.still("one has it, and is worth nothing", x -> x.score(0, 2), 0);
        ScoreDifferences x = read.start();
        x.forget(0, 0, true);
        x.change(0, 0, 0, 5);
        due.is("KEPT, not FROM NOTHING", x.score(0, 1), 23);
        x.mend(0, 0);
        due.is("as mended", x.score(0, 1), 17);
    }

    private static void noSuchScore(Scene read, Scene full) {
        due.sentence("score: -1: no such PLAN, LEVEL.");
        int[][] wrong = {{-1, 1}, {1, 1}, {4, 1}, {LEAST, 1}, {MOST, 1}, {0, -1}, {0, 3}, {0, LEAST}, {0, MOST}};
        for (int[] w : wrong) {
            read.still("score(" + w[0] + ", " + w[1] + ")", x -> x.score(w[0], w[1]), -1);
        }
        full.still("the last PLAN and LEVEL", x -> x.score(3, 2), 1620);
        full.still("a fifth PLAN", x -> x.score(4, 0), -1);
    }

    private static void worths(Scene read) {
        due.sentence("What a RULE is KEPT at in a PLAN (how = 0), or worth FROM NOTHING (1).");
        ScoreDifferences x = read.start();
        x.forget(0, 0, true);
        x.change(0, 0, 0, 5);
        due.is("KEPT", x.worth(0, 0, 0), 15);
        due.is("FROM NOTHING", x.worth(0, 0, 1), 9);
        due.is("KEPT", x.worth(0, 1, 0), 8);
        due.is("FROM NOTHING", x.worth(0, 1, 1), 8);
        read.still("KEPT", y -> y.worth(0, 0, 0), 15);
        read.still("FROM NOTHING", y -> y.worth(0, 2, 1), 0);
    }

    private static void noSuchWorth(Scene read, Scene full) {
        due.sentence("worth: -1: no such PLAN, RULE, how.");
        int[][] wrong = {
            {-1, 0, 0}, {1, 0, 0}, {4, 0, 1}, {LEAST, 0, 0}, {MOST, 0, 0},
            {0, -1, 0}, {0, 3, 0}, {0, 12, 1}, {0, LEAST, 1}, {0, MOST, 0},
            {0, 0, -1}, {0, 0, 2}, {0, 0, LEAST}, {0, 0, MOST},
        };
        for (int[] w : wrong) {
            read.still("worth(" + w[0] + ", " + w[1] + ", " + w[2] + ")", x -> x.worth(w[0], w[1], w[2]), -1);
        }
        full.still("the last of all", x -> x.worth(3, 11, 1), 0);
        full.still("the last that is worth something", x -> x.worth(3, 10, 0), 7 * 34);
        full.still("a fifth PLAN", x -> x.worth(4, 11, 1), -1);
        full.still("a 13th RULE", x -> x.worth(3, 12, 1), -1);
    }
}
