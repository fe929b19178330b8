/** What it is: an object is used for at most 512 calls. */
public final class CallsTest {
    private static final Due due = new Due();

    public static void main(String[] args) {
        changesToTheLast();
        undoingToTheLast();
        due.finish();
    }

    private static void changesToTheLast() {
        due.sentence("An object is used for at most 512 calls after it has been made: all of them dear ones, to the last");
        ScoreDifferences x = Scenes.withObjects(40);
        for (int r = 0; r < 12; r++) {
            x.rule(r % 6, 3, 0, 1, 0);
        }
        int calls = 52;
        for (int o = 1; o < 40; o++) {
            x.change(0, o, 2, o - 1);
            calls++;
        }
        x.every(1);
        calls++;
        int load = 0;
        while (calls < 511) {
            load++;
            due.is("all ENDS", x.change(0, 0, 0, load), 41);
            calls++;
        }
        due.is("the 512th", x.member(0, 39, 3), load);
    }

    private static void undoingToTheLast() {
        due.sentence("An object is used for at most 512 calls: CHANGES made and undone in turn");
        ScoreDifferences x = Scenes.withObjects(1);
        x.rule(2, 0, 0, 1, 0);
        for (int i = 0; i < 127; i++) {
            x.change(0, 0, 0, 1 + i);
            x.change(0, 0, 0, 1001);
            due.is("attempt", x.attempt(0, 0, 0, -7, 0), 7);
            due.is("undo", x.undo(0), 0);
        }
        due.is("the 511th", x.told(0, 0), 127);
        due.is("the 512th", x.told(0, 2), 254);
    }
}
