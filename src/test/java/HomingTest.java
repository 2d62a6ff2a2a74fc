/** Promises 13 and 15: home, the switch, and what axis tells. */
public final class HomingTest {
    public static void main(String[] args) {
        Due due = new Due();
        firstHoming(due);
        indexesOfHoming(due);
        fromTheClosedSwitch(due);
        theSwitch(due);
        switchBehindMissedSteps(due);
        changesLeaveTheSwitch(due);
        missedWhileHoming(due);
        longParts(due);
        fourThousand(due);
        switchAtItsEnds(due);
        greatestIndexOfHoming(due);
        homingIsNotBound(due);
        failing(due);
        slips(due);
        axisTime(due);
        timeGoesRound(due);
        wrongArguments(due);
        due.end();
    }

    private static void axis(Due due, StepAxis x, int... want) {
        for (int what = 0; what < want.length; what++) {
            due.is("axis(" + what + ")", x.axis(what), want[what]);
        }
    }

    private static void firstHoming(Due due) {
        StepAxis x = new StepAxis();
        due.is("home()", x.home(), 400 + 14 + 18 + 4);
        axis(due, x, 0, -400, 0, 1, 1, 436, 0, 5244 + 385 * 200 + 5044 + 22000, -1000, 1000);
        due.is("a change", x.count(2), 1);
        due.is("again, from the closed switch", x.home(), 8);
        axis(due, x, 0, -400, 0, 1, 1, 444, 0, 117288);
        due.is("move(100)", x.move(100), 0);
        axis(due, x, 100, -300, 0, 1, 0);
        due.is("home() from 100", x.home(), 100 + 14 + 18 + 4);
    }

    private static void indexesOfHoming(Due due) {
        StepAxis x = new StepAxis();
        x.set(5, -5);
        x.set(7, 3);
        due.is("home()", x.home(), 19);
        due.is("its time", x.axis(7), 1000 + 600 + 467 + 395 + 395 + 467 + 600 + 1000 + 11000);
        x = new StepAxis();
        x.set(5, -5);
        x.set(7, 0);
        due.is("with the index 0 alone", x.home(), 5 + 4 + 4);
        due.is("its time", x.axis(7), 13000);
        x = new StepAxis();
        x.set(5, -5);
        x.set(2, 1);
        due.is("the top bounds, too", x.home(), 5 + 1 + 5 + 4);
        due.is("its time", x.axis(7), 1000 + 4 * 600 + 1000 + 9000);
        x = new StepAxis();
        x.set(5, -3);
        due.is("closed while it speeds up", x.home(), 3 + 2 + 6 + 4);
        due.is("its time", x.axis(7), 1000 + 600 + 467 + 600 + 1000 + 10000);
        x = new StepAxis();
        x.set(5, 0);
        due.is("closed behind the first step", x.home(), 1 + 5 + 4);
        x = new StepAxis();
        x.set(5, 0);
        x.set(6, 0);
        due.is("without play", x.home(), 1 + 2 + 1);
        due.is("true", x.axis(1), 0);
    }

    private static void fromTheClosedSwitch(Due due) {
        StepAxis x = new StepAxis();
        x.set(5, -5);
        x.move(-20);
        due.is("closed", x.axis(4), 1);
        due.is("home() from below", x.home(), 19 + 4);
        axis(due, x, 0, -5, 0, 1, 1, 43, 0);
    }

    private static void theSwitch(Due due) {
        StepAxis x = new StepAxis();
        x.set(5, -5);
        int[][] want = {{-4, 0}, {-5, 1}, {-4, 1}, {-2, 1}, {-1, 0}, {-2, 0}, {-4, 0}, {-5, 1},
            {-6, 1}, {-3, 1}, {0, 0}};
        for (int[] w : want) {
            x.move(w[0]);
            due.is("switch at " + w[0], x.axis(4), w[1]);
        }
        x.set(6, 0);
        int[][] tight = {{-4, 0}, {-5, 1}, {-4, 0}, {-5, 1}};
        for (int[] w : tight) {
            x.move(w[0]);
            due.is("switch without play at " + w[0], x.axis(4), w[1]);
        }
    }

    private static void switchBehindMissedSteps(Due due) {
        StepAxis x = new StepAxis();
        x.load(-1, 1, 300);
        x.set(5, 0);
        due.is("still open", x.axis(4), 0);
        due.is("missed", x.move(1), 1);
        due.is("true", x.axis(1), 0);
        due.is("closed behind a missed step", x.axis(4), 1);
        x.set(5, -4);
        due.is("still closed", x.axis(4), 1);
        due.is("missed", x.move(0), 1);
        due.is("true 0 is above -4 + 3", x.axis(4), 0);
    }

    private static void changesLeaveTheSwitch(Due due) {
        StepAxis x = new StepAxis();
        x.set(5, 100);
        due.is("open below the switch", x.axis(4), 0);
        x.load(-50, -50, 300);
        x.limits(0, 0);
        due.is("still open", x.axis(4), 0);
        due.is("homing starts downwards all the same", x.home(), 1 + 105 + 4);
        due.is("true", x.axis(1), 100);
        x.set(5, -100);
        due.is("closed above the switch", x.axis(4), 1);
        x.dropLoad(0);
        due.is("still closed", x.axis(4), 1);
        due.is("homing starts upwards all the same", x.home(), 1 + 201);
        axis(due, x, 0, -100, 0, 1, 1);
    }

    private static void missedWhileHoming(Due due) {
        StepAxis x = new StepAxis();
        x.set(5, -5);
        x.set(4, 100);
        x.set(7, 0);
        x.load(-9, 9, 100);
        due.is("all with the pull at rest", x.home(), 5 + 4 + 4);
        due.is("none is missed", x.axis(6), 0);
        x.set(5, -9);
        due.is("and so again", x.home(), 1 + 5);
        due.is("none is missed", x.axis(6), 0);
        x = new StepAxis();
        x.set(5, -5);
        x.set(7, 3);
        x.set(4, 100);
        x.load(-6, -6, 95);
        due.is("home()", x.home(), 5 + 3 + 6 + 4);
        axis(due, x, 0, -5, 0, 1, 1, 18, 1);
        x = new StepAxis();
        x.set(0, 5000);
        x.set(1, 20);
        x.set(2, 200);
        x.set(7, 200);
        x.set(5, -2900);
        x.set(6, 50);
        due.is("home() onto the hard end", x.home(), 2900 + 200 + 151 + 51);
        axis(due, x, 0, -2900, 0, 1, 1, 3302, 100);
    }

    private static void longParts(Due due) {
        StepAxis x = new StepAxis();
        x.set(5, -2900);
        x.move(1101);
        due.is("4001 steps down to the switch", x.home(), StepAxis.NOT_POSSIBLE);
        x.move(1100);
        due.is("4000 steps, and those behind", x.home(), 4000 + 14 + 18 + 4);
        x = new StepAxis();
        x.set(6, 50);
        x.set(5, 950);
        x.move(-3000);
        due.is("closed", x.axis(4), 1);
        due.is("4001 steps up", x.home(), StepAxis.NOT_POSSIBLE);
        x.set(5, 949);
        due.is("4000 steps up", x.home(), 4000 + 51);
        x = new StepAxis();
        x.set(5, 1200);
        x.home();
        due.is("true", x.axis(1), 1200);
        x.set(5, -2800);
        due.is("1 step up, 4001 down", x.home(), StepAxis.NOT_POSSIBLE);
        x.set(5, -2799);
        due.is("1 step up, 4000 down", x.home(), 4001);
        due.is("true", x.axis(1), -2799);
    }

    /** Each part with 3999 and 4000 steps, and with 4001, behind which all is as before. */
    private static void fourThousand(Due due) {
        for (int steps = 3999; steps <= 4001; steps++) {
            StepAxis x = new StepAxis();
            x.set(7, 0);
            x.set(6, 0);
            x.set(5, -2900);
            x.move(steps - 2900);
            homes(due, x, "part 1, " + steps, steps <= 4000 ? steps + 2 : StepAxis.NOT_POSSIBLE);
            x = new StepAxis();
            x.set(6, 0);
            x.move(-3000);
            x.set(5, steps - 3001);
            homes(due, x, "part 2, " + steps, steps <= 4000 ? steps + 1 : StepAxis.NOT_POSSIBLE);
            x = new StepAxis();
            x.set(6, 0);
            x.set(5, 1200);
            x.home();
            x.set(5, 1201 - steps);
            homes(due, x, "part 3, " + steps, steps <= 4000 ? steps + 1 : StepAxis.NOT_POSSIBLE);
        }
        StepAxis x = new StepAxis();
        x.set(5, -2900);
        x.move(1100);
        homes(due, x, "part 1, the slowing steps behind its 4000", 4000 + 14 + 18 + 4);
    }

    private static void homes(Due due, StepAxis x, String call, int want) {
        String before = Due.picture(x);
        int states = x.count(2);
        int stepsBefore = x.axis(5);
        due.is("home(), " + call, x.home(), want);
        if (want < 0) {
            due.holds("nothing changed", Due.picture(x).equals(before) && x.count(2) == states);
        } else {
            axis(due, x, 0, x.count(15), 0, 1, 1, stepsBefore + want);
            due.is("a change", x.count(2), Math.min(4, states + 1));
        }
    }

    /** The greatest and the least place of the switch, with the least and the greatest play. */
    private static void switchAtItsEnds(Due due) {
        StepAxis x = new StepAxis();
        x.set(7, 0);
        x.set(5, 2900);
        x.set(6, 50);
        homes(due, x, "from below the greatest place", 1 + 2952 + 51);
        x.move(50);
        due.is("at the play's end it stays", x.axis(4), 1);
        x.move(51);
        due.is("and opens one beyond", x.axis(4), 0);
        x.move(1);
        due.is("one above the place it stays", x.axis(4), 0);
        x.move(0);
        due.is("and closes at it", x.axis(4), 1);
        x = new StepAxis();
        x.set(7, 0);
        x.set(5, -2900);
        x.set(6, 0);
        homes(due, x, "to the least place", 2900 + 1 + 1);
        homes(due, x, "to it again", 1 + 1);
        x.move(1);
        due.is("one above, without play", x.axis(4), 0);
        x.move(0);
        due.is("at it", x.axis(4), 1);
        x.move(-101);
        due.is("beyond the hard end", x.axis(4), 1);
    }

    /** "Up to the least one of setting 7 and the top": one below the top, the top, one above. */
    private static void greatestIndexOfHoming(Due due) {
        int[][] want = {{0, 400 + 4 + 4}, {1, 400 + 1 + 5 + 4}, {13, 400 + 13 + 17 + 4},
            {14, 400 + 14 + 18 + 4}, {15, 400 + 14 + 18 + 4}, {200, 400 + 14 + 18 + 4}};
        for (int[] w : want) {
            StepAxis x = new StepAxis();
            x.set(7, w[0]);
            homes(due, x, "setting 7 at " + w[0], w[1]);
        }
        for (int steps = 1; steps <= 5; steps++) {
            StepAxis x = new StepAxis();
            x.set(7, 3);
            x.set(5, -steps);
            int behind = Math.min(steps - 1, 3);
            homes(due, x, "closed behind step " + steps, steps + behind + behind + 4 + 4);
        }
    }

    /** Neither the limits nor the farthest told place of moves bind the steps of homing. */
    private static void homingIsNotBound(Due due) {
        StepAxis x = new StepAxis();
        x.load(0, 0, 300);
        x.move(-4000);
        due.is("true", x.axis(1), 0);
        x.dropLoad(0);
        homes(due, x, "from -4000 downwards", 436);
        x.limits(5, 5);
        homes(due, x, "to a place beyond the limits", 8);
        due.is("told", x.axis(0), 0);
        due.is("where no move is possible", x.move(0), StepAxis.NOT_POSSIBLE);
        due.is("by no steps neither", x.moveBy(0), StepAxis.NOT_POSSIBLE);
        due.is("but to within", x.move(5), 0);
    }

    private static void failing(Due due) {
        StepAxis x = new StepAxis();
        x.load(-3, -3, 300);
        x.move(5);
        String before = Due.picture(x);
        due.is("part 1 fails", x.home(), StepAxis.NOT_POSSIBLE);
        due.holds("nothing changed", Due.picture(x).equals(before));
        due.is("no change", x.count(2), 2);
        due.is("not homed", x.axis(3), 0);
        x = new StepAxis();
        x.set(5, 0);
        x.load(2, 2, 300);
        x.move(1);
        x.move(-1);
        due.is("closed", x.axis(4), 1);
        before = Due.picture(x);
        due.is("part 2 fails", x.home(), StepAxis.NOT_POSSIBLE);
        due.holds("nothing changed", Due.picture(x).equals(before));
        x.dropLoad(0);
        due.is("homed", x.home(), 9);
        before = Due.picture(x);
        x.load(-2, -2, 300);
        x.set(5, -10);
        due.is("part 3 fails", x.home(), StepAxis.NOT_POSSIBLE);
        due.is("still homed", x.axis(3), 1);
        x.undo();
        x.undo();
        due.holds("nothing changed", Due.picture(x).equals(before));
    }

    private static void slips(Due due) {
        StepAxis x = new StepAxis();
        x.load(3, 3, 300);
        due.is("move(5)", x.move(5), 2);
        due.is("slip before homing", x.axis(2), 2);
        x.dropLoad(0);
        x.move(-5);
        due.is("slip stays", x.axis(2), 2);
        x.home();
        due.is("slip is 0", x.axis(2), 0);
        due.is("true", x.axis(1), -400);
        x.load(2, 2, 300);
        due.is("move(410)", x.move(410), 8);
        due.is("told", x.axis(0), 410);
        due.is("true", x.axis(1), 2);
        due.is("slip", x.axis(2), 8);
        due.is("down", x.move(400), 10);
        due.is("slip", x.axis(2), -2);
        due.is("all missed", x.axis(6), 2 + 8 + 10);
    }

    private static void axisTime(Due due) {
        StepAxis x = new StepAxis();
        x.set(2, 0);
        x.set(0, 5000);
        x.move(199);
        due.is("995000", x.axis(7), 995000);
        x.move(200);
        due.is("1000000 is 0", x.axis(7), 0);
        x.move(-3800);
        due.is("20000000 is 0", x.axis(7), 0);
        due.is("the move's time is whole", x.moveOf(0, 3), 20000000);
        x.set(0, 4999);
        x.move(-3799);
        due.is("4999", x.axis(7), 4999);
        x.move(200);
        due.is("behind many rounds", x.axis(7), (4000 * 4999) % 1000000);
        x.set(5, 100);
        int before = x.axis(7);
        int steps = x.home();
        due.is("homing takes time, too", x.axis(7), (before + steps * 4999) % 1000000);
        due.is("steps", x.axis(5), 8200 + steps);
    }

    /** "Modulo 1000000": 999999, then one round more, by moves and by homing. */
    private static void timeGoesRound(Due due) {
        StepAxis x = new StepAxis();
        x.set(2, 0);
        x.set(0, 999);
        x.moveBy(1);
        x.set(0, 4995);
        x.moveBy(200);
        due.is("the greatest time", x.axis(7), 999999);
        due.is("no step", x.moveBy(0), 0);
        due.is("stays there", x.axis(7), 999999);
        x.set(0, 100);
        x.moveBy(-1);
        due.is("goes round", x.axis(7), 99);
        x.undo();
        due.is("and back", x.axis(7), 999999);
        x.set(5, 200);
        x.set(6, 0);
        due.is("home()", x.home(), 1 + 1 + 1);
        due.is("homing goes round, too", x.axis(7), 299);
    }

    private static void wrongArguments(Due due) {
        StepAxis x = new StepAxis();
        int[] wrong = {-1, 10, 11, Integer.MIN_VALUE, Integer.MAX_VALUE};
        for (int what : wrong) {
            due.is("axis(" + what + ")", x.axis(what), StepAxis.INVALID_ARGUMENT);
        }
    }
}
