/** Promises 8 to 10: ramp, top and timeOf. */
public final class RampTest {
    private static final int[] INTERVALS =
        {1000, 600, 467, 395, 349, 316, 291, 271, 254, 241, 229, 219, 210, 202, 200};
    private static final int[] RESTS = {0, 0, 3, 1, 9, 14, 21, 23, 4, 31, 21, 29, 26, 22, 27};

    public static void main(String[] args) {
        Due due = new Due();
        firstRamp(due);
        pulls(due);
        ends(due);
        leastPull(due);
        leastAndGreatestIntervals(due);
        longestRamp(due);
        wrongArguments(due);
        times(due);
        due.end();
    }

    /** Reckoned by hand from 1000; the last one would be 195. */
    private static void firstRamp(Due due) {
        StepAxis x = new StepAxis();
        due.is("top()", x.top(), 14);
        int sum = 0;
        for (int n = 0; n < INTERVALS.length; n++) {
            sum += INTERVALS[n];
            due.is("interval " + n, x.ramp(n, 0), INTERVALS[n]);
            due.is("rest " + n, x.ramp(n, 1), RESTS[n]);
            due.is("pull " + n, x.ramp(n, 2), 100 - n / 2 );
            due.is("sum " + n, x.ramp(n, 3), sum);
        }
        due.is("above the top", x.ramp(15, 0), StepAxis.NOT_FOUND);
        due.is("no change", x.count(2), 0);
    }

    private static void pulls(Due due) {
        StepAxis x = new StepAxis();
        x.set(4, 100);
        int[] want = {100, 94, 88, 82, 75, 69, 63, 57, 50, 44, 38, 32, 25, 19, 13};
        for (int n = 0; n < want.length; n++) {
            due.is("pull " + n + " at a loss of 100", x.ramp(n, 2), want[n]);
        }
        x.set(3, 13);
        int[] low = {13, 7, 1, 0, 0, 0};
        for (int n = 0; n < low.length; n++) {
            due.is("pull " + n + " of 13", x.ramp(n, 2), low[n]);
        }
        x.set(4, 0);
        due.is("pull 14 without loss", x.ramp(14, 2), 13);
        x.set(4, 15);
        due.is("pull 1 at a loss of 15", x.ramp(1, 2), 13);
        due.is("pull 2 at a loss of 15", x.ramp(2, 2), 12);
    }

    private static void ends(Due due) {
        StepAxis x = new StepAxis();
        x.set(2, 14);
        due.is("top at the greatest index", x.top(), 14);
        due.is("made the least there, too", x.ramp(14, 0), 200);
        x.set(2, 13);
        due.is("top below it", x.top(), 13);
        due.is("not made the least", x.ramp(13, 0), 202);
        due.is("none behind", x.ramp(14, 0), StepAxis.NOT_FOUND);
        x.set(2, 0);
        due.is("top at 0", x.top(), 0);
        due.is("first interval alone", x.ramp(0, 0), 1000);
        due.is("none behind", x.ramp(1, 0), StepAxis.NOT_FOUND);
        x.set(2, 60);
        x.set(1, 202);
        due.is("ends where the interval is the least itself", x.top(), 13);
        due.is("the interval", x.ramp(13, 0), 202);
        x.set(1, 600);
        due.is("top", x.top(), 1);
        x.set(1, 601);
        due.is("made 601", x.ramp(1, 0), 601);
        due.is("the rest all the same", x.ramp(1, 1), 0);
        x.set(1, 1000);
        due.is("not above the least", x.top(), 0);
        due.is("as setting 0 tells", x.ramp(0, 0), 1000);
        x.set(0, 100);
        due.is("far below the least", x.ramp(0, 0), 100);
        due.is("alone", x.top(), 0);
        due.is("its sum", x.ramp(0, 3), 100);
        x.set(0, 1001);
        due.is("just above the least", x.top(), 1);
        due.is("made the least", x.ramp(1, 0), 1000);
        due.is("its rest", x.ramp(1, 1), 2);
        x = new StepAxis();
        x.set(0, 5000);
        x.set(1, 20);
        x.set(2, 200);
        due.is("the longest ramp", x.top(), 200);
        due.holds("above the least there", x.ramp(200, 0) > 20);
        due.is("none behind", x.ramp(201, 0), StepAxis.NOT_FOUND);
    }

    /** "at least 0": one above it, 0 itself, and what would be one below it. */
    private static void leastPull(Due due) {
        StepAxis x = new StepAxis();
        x.set(4, 100);
        int[][] want = {{7, 1}, {6, 0}, {5, 0}, {1, 0}};
        for (int[] w : want) {
            x.set(3, w[0]);
            due.is("pull 0 of " + w[0], x.ramp(0, 2), w[0]);
            due.is("pull 1 of " + w[0] + ", which loses 6", x.ramp(1, 2), w[1]);
        }
        x.set(3, 300);
        due.is("the greatest pull at rest", x.ramp(0, 2), 300);
        due.is("and at its top, which loses 87", x.ramp(14, 2), 213);
    }

    private static void leastAndGreatestIntervals(Due due) {
        StepAxis x = new StepAxis();
        x.set(0, 100);
        x.set(1, 20);
        due.is("the least first interval", x.ramp(0, 0), 100);
        due.is("c(1)", x.ramp(1, 0), 60);
        due.is("c(2) is 60 - 120 / 9", x.ramp(2, 0), 47);
        due.is("r(2)", x.ramp(2, 1), 3);
        due.is("the least interval at the top", x.ramp(x.top(), 0), 20);
        due.holds("none but the top is the least", x.ramp(x.top() - 1, 0) > 20);
        x.set(1, 99);
        due.is("one below the first interval", x.top(), 1);
        due.is("made the least", x.ramp(1, 0), 99);
        x.set(1, 100);
        due.is("the first interval itself", x.top(), 0);
        x.set(1, 101);
        due.is("one above the first interval", x.top(), 0);
        due.is("as setting 0 tells", x.ramp(0, 0), 100);
        x.set(0, 5000);
        x.set(1, 1000);
        due.is("the greatest first interval", x.ramp(0, 0), 5000);
        due.is("its rest", x.ramp(0, 1), 0);
        due.is("c(1) is 5000 - 10000 / 5", x.ramp(1, 0), 3000);
        due.is("the greatest least interval", x.ramp(x.top(), 0), 1000);
    }

    /** The greatest value of setting 2, with a least interval that isn't reached till there. */
    private static void longestRamp(Due due) {
        StepAxis x = new StepAxis();
        x.set(0, 5000);
        x.set(1, 20);
        x.set(2, 200);
        x.set(3, 300);
        x.set(4, 23);
        int interval = 5000;
        int rest = 0;
        int sum = 5000;
        for (int n = 1; n <= 200; n++) {
            int v = 2 * interval + rest;
            interval -= v / (4 * n + 1);
            rest = v % (4 * n + 1);
            sum += interval;
            due.is("interval " + n, x.ramp(n, 0), interval);
            due.is("rest " + n, x.ramp(n, 1), rest);
            due.is("pull " + n, x.ramp(n, 2), 300 - n * 23 / 16);
            due.is("sum to " + n, x.ramp(n, 3), sum);
        }
        due.is("top", x.top(), 200);
        for (int what = 0; what < 4; what++) {
            due.is("ramp(201, " + what + ")", x.ramp(201, what), StepAxis.NOT_FOUND);
        }
        due.is("timeOf(401)", x.timeOf(401), 2 * sum - interval);
        due.is("timeOf(402)", x.timeOf(402), 2 * sum);
        x.move(401);
        due.is("a move of 401 steps: its time", x.moveOf(0, 3), 2 * sum - interval);
        due.is("its greatest index", x.moveOf(0, 4), 200);
        x.move(2);
        due.is("a move of 399 steps: its greatest index", x.moveOf(0, 4), 199);
        x.set(4, 24);
        due.is("the pull is 0 itself there", x.ramp(200, 2), 0);
        due.is("and 2 at the index ahead", x.ramp(199, 2), 2);
        x.set(4, 100);
        due.is("and 0 where it would be far below", x.ramp(200, 2), 0);
        x.set(2, 199);
        due.is("one less", x.top(), 199);
        due.is("none behind", x.ramp(200, 0), StepAxis.NOT_FOUND);
    }

    private static void wrongArguments(Due due) {
        StepAxis x = new StepAxis();
        int[][] invalid = {{-1, 0}, {0, -1}, {0, 4}, {Integer.MIN_VALUE, 0}, {100, 4}, {100, -1},
            {0, Integer.MAX_VALUE}, {0, Integer.MIN_VALUE}};
        for (int[] w : invalid) {
            due.is("ramp(" + w[0] + ", " + w[1] + ")", x.ramp(w[0], w[1]),
                StepAxis.INVALID_ARGUMENT);
        }
        due.is("ramp(greatest, 3)", x.ramp(Integer.MAX_VALUE, 3), StepAxis.NOT_FOUND);
        due.is("ramp(201, 1)", x.ramp(201, 1), StepAxis.NOT_FOUND);
        int[] wrong = {-1, 6001, Integer.MIN_VALUE, Integer.MAX_VALUE};
        for (int steps : wrong) {
            due.is("timeOf(" + steps + ")", x.timeOf(steps), StepAxis.INVALID_ARGUMENT);
        }
    }

    private static void times(Due due) {
        StepAxis x = new StepAxis();
        int[] want = {0, 1000, 2000, 2600, 3200, 3667, 4134};
        for (int steps = 0; steps < want.length; steps++) {
            due.is("timeOf(" + steps + ")", x.timeOf(steps), want[steps]);
        }
        int sum = x.ramp(14, 3);
        due.is("timeOf(28)", x.timeOf(28), 2 * sum - 400);
        due.is("timeOf(29)", x.timeOf(29), 2 * sum - 200);
        due.is("timeOf(30)", x.timeOf(30), 2 * sum);
        due.is("timeOf(31)", x.timeOf(31), 2 * sum + 200);
        due.is("timeOf(6000)", x.timeOf(6000), 2 * sum + 5970 * 200);
        x.set(2, 0);
        due.is("timeOf(6000) with the first interval alone", x.timeOf(6000), 6000000);
        due.is("timeOf(1) with it", x.timeOf(1), 1000);
        x.set(2, 1);
        due.is("timeOf(4) with a top of 1", x.timeOf(4), 3200);
        due.is("timeOf(5) with a top of 1", x.timeOf(5), 3800);
        x.load(-3000, 3000, 300);
        due.is("loads do not count", x.timeOf(5), 3800);
        x.set(0, 5000);
        x.set(2, 0);
        due.is("the longest time", x.timeOf(6000), 30000000);
    }
}
