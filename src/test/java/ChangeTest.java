/** Promise 6: change(), with ENDS that follow, and COST. */
public final class ChangeTest {
    private static final Due due = new Due();

    public static void main(String[] args) {
        refused();
        edges();
        endsFollow();
        neverItself();
        cost();
        costOfKindFive();
        due.finish();
    }

    private static ScoreDifferences made(int objects) {
        ScoreDifferences x = new ScoreDifferences();
        for (int o = 0; o < objects; o++) {
            x.object();
        }
        return x;
    }

    private static void refused() {
        ScoreDifferences x = made(3);
        int[][] wrong = {
            {-1, 0, 0, 0}, {1, 0, 0, 0}, {4, 0, 0, 0}, {0, -1, 0, 0}, {0, 3, 0, 0}, {0, 40, 0, 0},
            {0, 0, -1, 0}, {0, 0, 3, 0}, {0, 0, 4, 0},
            {0, 0, 0, -1001}, {0, 0, 0, 1001}, {0, 0, 1, -1}, {0, 0, 1, 21},
            {0, 0, 2, -2}, {0, 0, 2, 3}, {0, 0, 2, 0}, {0, 0, 2, Integer.MAX_VALUE}, {0, 0, 2, Integer.MIN_VALUE},
        };
        for (int[] w : wrong) {
            due.is("wrong change", x.change(w[0], w[1], w[2], w[3]), -1);
        }
        due.is("none was made", x.told(0, 0), 0);
        due.is("none is known", x.told(0, 1), 0);
    }

    private static void edges() {
        ScoreDifferences x = made(2);
        due.is("least LOAD", x.change(0, 0, 0, -1000), 2);
        due.is("most LOAD", x.change(0, 0, 0, 1000), 2);
        due.is("most GROUP", x.change(0, 0, 1, 20), 1);
        due.is("least GROUP", x.change(0, 0, 1, 0), 1);
        due.is("BEFORE", x.change(0, 1, 2, 0), 2);
        due.is("no BEFORE", x.change(0, 1, 2, -1), 2);
        due.is("no BEFORE again", x.change(0, 1, 2, -1), 0);
        due.is("that is a CHANGE, too", x.told(0, 0), 7);
        due.is("and is known", x.told(0, 1), 7);
    }

    private static void endsFollow() {
        ScoreDifferences x = made(5);
        x.change(0, 0, 0, 10);
        due.is("LOAD of one without others", x.change(0, 1, 0, 20), 2);
        due.is("1 behind 0", x.change(0, 1, 2, 0), 2);
        due.is("2 behind 1", x.change(0, 2, 2, 1), 2);
        due.is("3 behind 1", x.change(0, 3, 2, 1), 2);
        due.is("4 behind 3", x.change(0, 4, 2, 3), 2);
        due.is("LOAD of 1: four ENDS", x.change(0, 1, 0, 25), 5);
        int[] ends = {10, 35, 35, 35, 35};
        for (int o = 0; o < 5; o++) {
            due.is("END of " + o, x.member(0, o, 3), ends[o]);
        }
        due.is("3 behind 0", x.change(0, 3, 2, 0), 3);
        due.is("END of 4", x.member(0, 4, 3), 10);
        due.is("0 has no LOAD", x.change(0, 0, 0, 0), 6);
        due.is("BEFORE without another END", x.change(0, 3, 2, -1), 1);
    }

    private static void neverItself() {
        ScoreDifferences x = made(40);
        for (int o = 1; o < 40; o++) {
            x.change(0, o, 2, o - 1);
        }
        due.is("all ENDS of a chain", x.change(0, 0, 0, 1), 41);
        due.is("the chain's end", x.member(0, 39, 3), 1);
        for (int o = 0; o < 40; o++) {
            due.is("0 behind " + o, x.change(0, 0, 2, o), -1);
        }
        due.is("20 behind 39", x.change(0, 20, 2, 39), -1);
        due.is("20 behind none", x.change(0, 20, 2, -1), 21);
        due.is("0 behind 39", x.change(0, 0, 2, 39), 1);
        due.is("20 behind 19 goes round now", x.change(0, 20, 2, 19), -1);
        due.is("END of 19", x.member(0, 19, 3), 1);
    }

    private static void cost() {
        ScoreDifferences x = made(3);
        x.rule(0, 0, 0, 1, 0);
        x.rule(1, 1, 0, 1, 0);
        x.rule(2, 2, 0, 1, 0);
        x.rule(3, 3, 0, 1, 0);
        x.rule(4, 3, 0, 1, 0);
        x.change(0, 0, 0, 2);
        due.is("LOAD and twice END", x.told(0, 2), 3);
        x.change(0, 0, 1, 2);
        due.is("GROUP", x.told(0, 2), 4);
        x.change(0, 1, 2, 2);
        due.is("BEFORE", x.told(0, 2), 5);
        x.change(0, 2, 2, 0);
        due.is("BEFORE and two ENDS twice", x.told(0, 2), 10);
        x.change(0, 0, 0, 2);
        due.is("none", x.told(0, 2), 10);
        x.change(0, 0, 0, 9999);
        due.is("refused", x.told(0, 2), 10);
    }

    private static void costOfKindFive() {
        ScoreDifferences x = made(3);
        x.rule(5, 3, 0, 1, 0);
        x.rule(5, 2, 0, 1, 0);
        x.change(0, 0, 0, 4);
        due.is("END", x.told(0, 2), 1);
        x.change(0, 1, 2, 0);
        due.is("BEFORE and END of one object are one pair", x.told(0, 2), 3);
        x.change(0, 1, 1, 3);
        due.is("GROUP is not looked at", x.told(0, 2), 3);
        x.change(0, 0, 0, 0);
        due.is("two ENDS", x.told(0, 2), 5);
        x.change(0, 1, 2, -1);
        due.is("BEFORE alone, for both", x.told(0, 2), 7);
    }
}
