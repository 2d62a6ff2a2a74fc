/** Promise 17: count. */
public final class CountTest {
    public static void main(String[] args) {
        Due due = new Due();
        StepAxis x = new StepAxis();
        for (int i = 1; i <= 6; i++) {
            x.load(0, i, i);
            due.is("loads", x.count(0), i);
            due.is("states", x.count(2), i < 4 ? i : 4);
        }
        for (int i = 1; i <= 7; i++) {
            x.move(i);
            due.is("moves", x.count(1), i < 5 ? i : 5);
        }
        for (int i = 5; i >= 0; i--) {
            x.dropLoad(0);
            due.is("loads left", x.count(0), i);
        }
        for (int i = 1; i <= 60; i++) {
            x.type(32 + i);
            due.is("signs", x.count(3), i);
        }
        int[] values = {4321, 654, 32, 123, 45, -678, 43, 21};
        for (int what = 0; what < 8; what++) {
            x.set(what, values[what]);
        }
        for (int what = 0; what < 8; what++) {
            due.is("count(1" + what + ")", x.count(10 + what), values[what]);
        }
        x.type('z');
        due.is("no more signs", x.count(3), 60);
        int[] wrong = {-1, -10, 4, 5, 6, 7, 8, 9, 18, 19, Integer.MIN_VALUE, Integer.MAX_VALUE};
        for (int what : wrong) {
            due.is("count(" + what + ")", x.count(what), StepAxis.INVALID_ARGUMENT);
        }
        due.is("asking is no change", x.count(2), 4);
        for (int left = 3; left >= 0; left--) {
            x.undo();
            due.is("states left", x.count(2), left);
            due.is("the text is not undone", x.count(3), 60);
        }
        x.undo();
        due.is("none is left", x.count(2), 0);
        x.clearText();
        due.is("no sign is left", x.count(3), 0);
        due.end();
    }
}
