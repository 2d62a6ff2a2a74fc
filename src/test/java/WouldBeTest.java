/** Promises 18 to 20: wouldMiss, safe and firstMiss. */
public final class WouldBeTest {
    public static void main(String[] args) {
        Due due = new Due();
        wrongPlaces(due);
        limitsWhenHomed(due);
        missing(due);
        hardEnds(due);
        safeValues(due);
        safeSteps(due);
        safeAtTheEnds(due);
        firstSteps(due);
        theLoadWhereAStepGoes(due);
        theRampAsItIs(due);
        due.end();
    }

    private static void all(Due due, StepAxis x, int place, int missed, int safe, int first) {
        String before = Due.picture(x);
        int states = x.count(2);
        due.is("wouldMiss(" + place + ")", x.wouldMiss(place), missed);
        due.is("safe(" + place + ")", x.safe(place), safe);
        due.is("firstMiss(" + place + ")", x.firstMiss(place), first);
        due.holds("nothing changes", Due.picture(x).equals(before) && x.count(2) == states);
    }

    private static void wrongPlaces(Due due) {
        StepAxis x = new StepAxis();
        int invalid = StepAxis.INVALID_ARGUMENT;
        int[] wrong = {4001, -4001, Integer.MIN_VALUE, Integer.MAX_VALUE};
        for (int place : wrong) {
            all(due, x, place, invalid, invalid, invalid);
        }
        x.set(5, 0);
        x.home();
        for (int place : wrong) {
            all(due, x, place, invalid, invalid, invalid);
        }
    }

    private static void limitsWhenHomed(Due due) {
        StepAxis x = new StepAxis();
        int no = StepAxis.NOT_POSSIBLE;
        x.set(5, 0);
        all(due, x, 1001, 0, 60, StepAxis.NOT_FOUND);
        x.home();
        all(due, x, 1001, no, no, no);
        all(due, x, -1001, no, no, no);
        all(due, x, 1000, 0, 60, StepAxis.NOT_FOUND);
        all(due, x, -1000, 0, 60, StepAxis.NOT_FOUND);
        x.limits(1, 2);
        all(due, x, 0, no, no, no);
        all(due, x, 1, 0, 60, StepAxis.NOT_FOUND);
        x.load(-3000, 3000, 300);
        all(due, x, 3, no, no, no);
    }

    private static void missing(Due due) {
        StepAxis x = new StepAxis();
        all(due, x, 0, 0, 60, StepAxis.NOT_FOUND);
        x.load(3, 5, 101);
        all(due, x, 2, 0, 60, StepAxis.NOT_FOUND);
        all(due, x, 3, 0, 60, StepAxis.NOT_FOUND);
        all(due, x, 4, 1, StepAxis.NOT_FOUND, 3);
        all(due, x, 8, 5, StepAxis.NOT_FOUND, 3);
        all(due, x, -8, 0, 60, StepAxis.NOT_FOUND);
        x.load(-3, -3, 300);
        all(due, x, -3, 0, 60, StepAxis.NOT_FOUND);
        all(due, x, -8, 5, StepAxis.NOT_FOUND, -3);
        x.move(8);
        due.is("told", x.axis(0), 8);
        all(due, x, 8, 0, 60, StepAxis.NOT_FOUND);
        due.is("true", x.axis(1), 3);
        all(due, x, 10, 2, StepAxis.NOT_FOUND, 3);
        all(due, x, 0, 8, StepAxis.NOT_FOUND, 3);
    }

    private static void hardEnds(Due due) {
        StepAxis x = new StepAxis();
        all(due, x, 3000, 0, 60, StepAxis.NOT_FOUND);
        all(due, x, 3001, 1, StepAxis.NOT_FOUND, 3000);
        all(due, x, -3002, 2, StepAxis.NOT_FOUND, -3000);
        all(due, x, 4000, 1000, StepAxis.NOT_FOUND, 3000);
        all(due, x, -3000, 0, 60, StepAxis.NOT_FOUND);
        all(due, x, -3001, 1, StepAxis.NOT_FOUND, -3000);
        all(due, x, -4000, 1000, StepAxis.NOT_FOUND, -3000);
    }

    /** A loss of pull of 100 makes the pulls 100, 94, 88, 82, 75, 69. */
    private static void safeValues(Due due) {
        int[] pulls = {100, 94, 88, 82, 75, 69};
        for (int value = 0; value < 5; value++) {
            StepAxis x = new StepAxis();
            x.set(4, 100);
            x.load(-3000, 3000, pulls[value]);
            due.is("safe(100) at " + pulls[value], x.safe(100), value);
            due.is("safe(-100) at " + pulls[value], x.safe(-100), value);
            due.is("a move that goes no faster", x.safe(2 * value + 1), 60);
            due.is("a move that goes faster by one step", x.safe(2 * value + 3), value);
            x.set(2, value + 1);
            due.is("above it", x.safe(100), value);
            x.set(2, value);
            due.is("as it is now", x.safe(100), value);
            due.is("wouldMiss with it", x.wouldMiss(100), 0);
            if (value > 0) {
                x.set(2, value - 1);
                due.is("not above what it is now", x.safe(100), value - 1);
            }
            due.is("the setting stays", x.count(12), value > 0 ? value - 1 : 0);
        }
        StepAxis x = new StepAxis();
        x.set(4, 100);
        x.load(-3000, 3000, 101);
        due.is("not even with 0", x.safe(100), StepAxis.NOT_FOUND);
        due.is("no steps", x.safe(0), 60);
        x.dropLoad(0);
        x.set(2, 200);
        due.is("the top is 14", x.top(), 14);
        due.is("as the setting is, above the top", x.safe(100), 200);
        x.set(1, 1000);
        due.is("a ramp of one interval", x.safe(100), 200);
        x.load(1, 1, 100);
        due.is("a ramp of one interval", x.safe(100), 200);
    }

    private static void firstSteps(Due due) {
        StepAxis x = new StepAxis();
        x.load(0, 0, 100);
        all(due, x, 9, 0, 60, StepAxis.NOT_FOUND);
        all(due, x, -9, 0, 60, StepAxis.NOT_FOUND);
        x.load(-8, -8, 100);
        all(due, x, -9, 0, 60, StepAxis.NOT_FOUND);
        all(due, x, -10, 0, 60, StepAxis.NOT_FOUND);
        x.load(-8, -8, 1);
        all(due, x, -8, 0, 60, StepAxis.NOT_FOUND);
        all(due, x, -9, 1, StepAxis.NOT_FOUND, -8);
        x.load(0, 0, 1);
        all(due, x, 9, 9, StepAxis.NOT_FOUND, 0);
        all(due, x, -9, 9, StepAxis.NOT_FOUND, 0);
        all(due, x, 0, 0, 60, StepAxis.NOT_FOUND);
    }

    /** The run of issue 5; a step from place 1 is missed, one to it is not. */
    private static void theLoadWhereAStepGoes(Due due) {
        StepAxis x = new StepAxis();
        x.load(1, 1, 3);
        x.set(3, 1);
        all(due, x, 1, 0, 60, StepAxis.NOT_FOUND);
        all(due, x, 2, 1, StepAxis.NOT_FOUND, 1);
        x = new StepAxis();
        x.load(3000, 3000, 300);
        all(due, x, 3000, 0, 60, StepAxis.NOT_FOUND);
        all(due, x, 3001, 1, StepAxis.NOT_FOUND, 3000);
        x.move(3000);
        all(due, x, 2990, 10, StepAxis.NOT_FOUND, 3000);
    }

    /** Each call is the first one behind a setting that makes another ramp. */
    private static void theRampAsItIs(Due due) {
        StepAxis x = new StepAxis();
        x.load(3, 3, 90);
        due.is("firstMiss", x.firstMiss(7), StepAxis.NOT_FOUND);
        x.set(4, 100);
        due.is("firstMiss", x.firstMiss(7), 3);
        x.set(4, 0);
        due.is("safe", x.safe(7), 60);
        x.set(4, 100);
        due.is("safe", x.safe(7), 1);
        x.set(4, 0);
        due.is("wouldMiss", x.wouldMiss(7), 0);
        x.set(4, 100);
        due.is("wouldMiss", x.wouldMiss(7), 2);
        x.set(0, 500);
        due.is("timeOf", x.timeOf(2), 1000);
        x.set(0, 400);
        due.is("ramp", x.ramp(0, 3), 400);
        x.set(1, 400);
        due.is("top", x.top(), 0);
        x.set(1, 200);
        due.is("move", x.move(7), 2);
        x.set(5, 0);
        x.set(4, 0);
        due.is("home", x.home(), 5 + 2 + 6 + 4);
        x = new StepAxis();
        x.set(4, 0);
        due.is("a longer ramp that loses no pull", x.ramp(2, 2), 100);
        x.set(4, 100);
        x.set(2, 1);
        x.load(-3000, 3000, 95);
        due.is("nothing of it is left behind the top", x.safe(100), 0);
        due.is("ramp", x.ramp(2, 2), StepAxis.NOT_FOUND);
    }

    /** The least value, the greatest one, and what "wherever the top is" says of those between. */
    private static void safeAtTheEnds(Due due) {
        StepAxis x = new StepAxis();
        x.set(4, 100);
        x.load(-3000, 3000, 100);
        due.is("0 alone", x.safe(3), 0);
        x.set(2, 0);
        due.is("0 as it is", x.safe(3), 0);
        x.load(0, 0, 1);
        due.is("0 would miss, too", x.safe(3), StepAxis.NOT_FOUND);
        due.is("no step", x.safe(0), 0);
        x = new StepAxis();
        int[] values = {200, 199, 15, 14, 13, 1, 0};
        for (int value : values) {
            x.set(2, value);
            due.is("safe without loads", x.safe(100), value);
            due.is("safe of no steps", x.safe(0), value);
        }
        x.set(2, 200);
        x.set(4, 100);
        x.load(-3000, 3000, 13);
        due.is("the pull at the top itself", x.safe(100), 200);
        x.load(-3000, 3000, 1);
        due.is("one more", x.safe(100), 13);
        x.set(0, 5000);
        x.set(1, 20);
        x.set(3, 300);
        x.set(4, 24);
        x.dropLoad(0);
        due.is("the longest ramp", x.top(), 200);
        due.is("one at a pull of nothing", x.safe(401), 199);
        due.is("which a shorter move doesn't reach", x.safe(400), 200);
        x.dropLoad(0);
        due.is("none at a pull of nothing", x.safe(401), 200);
    }

    private static void safeSteps(Due due) {
        StepAxis x = new StepAxis();
        x.set(4, 100);
        x.load(50, 50, 80);
        due.is("a load on the way", x.safe(100), 3);
        x.load(60, 60, 90);
        due.is("a heavier one behind it", x.safe(100), 1);
        x.load(55, 55, 85);
        due.is("a lighter one between them", x.safe(100), 1);
        due.is("not begun", x.safe(50), 60);
        due.is("left with index 0", x.safe(51), 60);
        due.is("left with index 1", x.safe(52), 60);
        due.is("left with index 3", x.safe(54), 60);
        due.is("left with index 4", x.safe(55), 3);
        due.is("top", x.top(), 14);
        due.is("wouldMiss", x.wouldMiss(55), 1);
        due.is("firstMiss", x.firstMiss(55), 50);
    }
}
