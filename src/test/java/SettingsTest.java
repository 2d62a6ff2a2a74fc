/** Promises 2 and 3: set and limits. */
public final class SettingsTest {
    private static final int[] LEAST = {100, 20, 0, 1, 0, -2900, 0, 0};
    private static final int[] GREATEST = {5000, 1000, 200, 300, 100, 2900, 50, 200};
    private static final int[] FIRST = {1000, 200, 60, 100, 8, -400, 3, 20};

    public static void main(String[] args) {
        Due due = new Due();
        ranges(due);
        wrongSettings(due);
        limits(due);
        wrongLimits(due);
        due.end();
    }

    private static void ranges(Due due) {
        for (int what = 0; what < 8; what++) {
            StepAxis x = new StepAxis();
            due.is("set to the least", x.set(what, LEAST[what]), FIRST[what]);
            due.is("set below it", x.set(what, LEAST[what] - 1), StepAxis.INVALID_ARGUMENT);
            due.is("set to the greatest", x.set(what, GREATEST[what]), LEAST[what]);
            due.is("set above it", x.set(what, GREATEST[what] + 1), StepAxis.INVALID_ARGUMENT);
            due.is("set to the same", x.set(what, GREATEST[what]), GREATEST[what]);
            due.is("its value", x.count(10 + what), GREATEST[what]);
            due.is("the changes", x.count(2), 3);
            for (int other = 0; other < 8; other++) {
                if (other != what) {
                    due.is("another setting", x.count(10 + other), FIRST[other]);
                }
            }
        }
    }

    private static void wrongSettings(Due due) {
        StepAxis x = new StepAxis();
        String before = Due.picture(x);
        int[] whats = {-1, 8, 9, 10, 17, Integer.MIN_VALUE, Integer.MAX_VALUE};
        int[] values = {0, 1, 20, 50, 100, 200, 1000, 5000};
        for (int what : whats) {
            for (int value : values) {
                due.is("set(" + what + ", " + value + ")", x.set(what, value),
                    StepAxis.INVALID_ARGUMENT);
            }
        }
        for (int what = 0; what < 8; what++) {
            due.is("set to the int's least", x.set(what, Integer.MIN_VALUE),
                StepAxis.INVALID_ARGUMENT);
            due.is("set to the int's greatest", x.set(what, Integer.MAX_VALUE),
                StepAxis.INVALID_ARGUMENT);
        }
        due.is("no change", x.count(2), 0);
        due.holds("nothing changed", Due.picture(x).equals(before));
    }

    private static void limits(Due due) {
        StepAxis x = new StepAxis();
        due.is("limits(-2000, 2000)", x.limits(-2000, 2000), 1);
        due.is("low", x.axis(8), -2000);
        due.is("high", x.axis(9), 2000);
        due.is("limits(0, 0)", x.limits(0, 0), 1);
        due.is("limits(1, 1)", x.limits(1, 1), 0);
        due.is("limits(-1, -1)", x.limits(-1, -1), 0);
        due.is("limits(-2000, -2000)", x.limits(-2000, -2000), 0);
        due.is("limits(2000, 2000)", x.limits(2000, 2000), 0);
        due.is("low", x.axis(8), 2000);
        due.is("high", x.axis(9), 2000);
        due.is("the history", x.count(2), 4);
        due.is("limits do not bind before homing", x.move(7), 0);
        due.is("limits(7, 8)", x.limits(7, 8), 1);
        due.is("limits(6, 7)", x.limits(6, 7), 1);
        due.is("limits(8, 9)", x.limits(8, 9), 0);
        due.is("limits(5, 6)", x.limits(5, 6), 0);
        x = new StepAxis();
        x.load(4, 4, 300);
        x.move(7);
        due.is("the true place", x.axis(1), 4);
        due.is("the told place counts", x.limits(7, 7), 1);
        due.is("and not the true one", x.limits(4, 4), 0);
    }

    private static void wrongLimits(Due due) {
        StepAxis x = new StepAxis();
        int[][] wrong = {{-2001, 0}, {2001, 2001}, {0, 2001}, {1, 0}, {-2000, -2001}, {2001, 2000},
            {2000, 1999}, {-1999, -2000}, {-2001, -2001}, {-2001, 2001}, {2000, 2001},
            {Integer.MIN_VALUE, 0}, {0, Integer.MAX_VALUE}, {0, Integer.MIN_VALUE},
            {Integer.MAX_VALUE, Integer.MAX_VALUE}};
        for (int[] w : wrong) {
            due.is("limits(" + w[0] + ", " + w[1] + ")", x.limits(w[0], w[1]),
                StepAxis.INVALID_ARGUMENT);
        }
        due.is("low as before", x.axis(8), -1000);
        due.is("high as before", x.axis(9), 1000);
        due.is("no change", x.count(2), 0);
    }
}
