/** Promises 11, 12, 14, 16 and 21: move, moveBy, forget, moveOf and speedBits. */
public final class MovesTest {
    public static void main(String[] args) {
        Due due = new Due();
        plainMoves(due);
        farPlaces(due);
        hardEnds(due);
        indexesOfSteps(due);
        limitsWhenHomed(due);
        movesBySteps(due);
        movesOfNoSteps(due);
        keptMoves(due);
        greatestIndexes(due);
        wrongMoveOf(due);
        speeds(due);
        fiveAreKept(due);
        speedsOfAllKept(due);
        pullOfNothing(due);
        placesByTheEnds(due);
        limitsAtTheirEnds(due);
        due.end();
    }

    private static void axis(Due due, StepAxis x, int told, int real, int steps, int missed) {
        due.is("told", x.axis(0), told);
        due.is("true", x.axis(1), real);
        due.is("steps", x.axis(5), steps);
        due.is("missed", x.axis(6), missed);
    }

    private static void plainMoves(Due due) {
        StepAxis x = new StepAxis();
        due.is("move(7)", x.move(7), 0);
        axis(due, x, 7, 7, 7, 0);
        due.is("time", x.axis(7), 1000 + 600 + 467 + 395 + 467 + 600 + 1000);
        due.is("move(-3)", x.move(-3), 0);
        axis(due, x, -3, -3, 17, 0);
        due.is("changes", x.count(2), 2);
        due.is("slip", x.axis(2), 0);
        due.is("not homed", x.axis(3), 0);
    }

    private static void farPlaces(Due due) {
        StepAxis x = new StepAxis();
        int[] wrong = {4001, -4001, Integer.MAX_VALUE, Integer.MIN_VALUE};
        for (int place : wrong) {
            due.is("move(" + place + ")", x.move(place), StepAxis.INVALID_ARGUMENT);
            due.is("moveBy(" + place + ")", x.moveBy(place), StepAxis.INVALID_ARGUMENT);
        }
        axis(due, x, 0, 0, 0, 0);
        due.is("no change", x.count(2), 0);
        due.is("limits do not bind before homing: move(2999)", x.move(2999), 0);
        due.is("move(4000)", x.move(4000), 1000);
        axis(due, x, 4000, 3000, 4000, 1000);
        due.is("slip", x.axis(2), 1000);
        due.is("move(-4000)", x.move(-4000), 2000);
        axis(due, x, -4000, -3000, 12000, 3000);
        due.is("slip", x.axis(2), -1000);
        due.is("the longest move's greatest index", x.moveOf(0, 4), 14);
        due.is("its time", x.moveOf(0, 3), 2 * 5244 + 7970 * 200);
        due.is("all time", x.axis(7), (3 * 2 * 5244 + (2969 + 971 + 7970) * 200) % 1000000);
    }

    private static void hardEnds(Due due) {
        StepAxis x = new StepAxis();
        due.is("move(3000)", x.move(3000), 0);
        due.is("move(3001)", x.move(3001), 1);
        axis(due, x, 3001, 3000, 3001, 1);
        due.is("back", x.move(3000), 0);
        axis(due, x, 3000, 2999, 3002, 1);
        due.is("a load at the end", x.load(3000, 3000, 300), 0);
        due.is("holds no step onto it", x.move(3001), 0);
        axis(due, x, 3001, 3000, 3003, 1);
        due.is("but each one from it: beyond the end", x.move(3002), 1);
        due.is("and back", x.move(3001), 1);
        axis(due, x, 3001, 3000, 3005, 3);
        x.dropLoad(0);
        due.is("down to the lower end", x.move(-2999), 0);
        axis(due, x, -2999, -3000, 9005, 3);
        due.is("beyond the lower end", x.move(-3001), 2);
        axis(due, x, -3001, -3000, 9007, 5);
        due.is("and back", x.move(-2999), 0);
        axis(due, x, -2999, -2998, 9009, 5);
    }

    /** A loss of pull of 100 makes the pulls 100, 94, 88, 82: a load tells the index of a step. */
    private static void indexesOfSteps(Due due) {
        int[] seven = {100, 94, 88, 82, 88, 94, 100};
        int[] six = {100, 94, 88, 88, 94, 100};
        int[] one = {100};
        int[] two = {100, 100};
        int[] flat = {100, 94, 94, 94, 94, 94, 100};
        for (int direction = -1; direction <= 1; direction += 2) {
            pullsOfMove(due, direction, 60, seven);
            pullsOfMove(due, direction, 60, six);
            pullsOfMove(due, direction, 60, one);
            pullsOfMove(due, direction, 60, two);
            pullsOfMove(due, direction, 1, flat);
            pullsOfMove(due, direction, 0, new int[] {100, 100, 100, 100});
        }
        StepAxis x = new StepAxis();
        x.set(4, 100);
        x.load(3, 3, 83);
        due.is("a step is missed, the next one pulls more", x.move(7), 1);
        axis(due, x, 7, 6, 7, 1);
        x.load(-1, 5, 200);
        due.is("the load where a step goes does not count", x.move(6), 0);
        due.is("true", x.axis(1), 5);
        due.is("the one where it begins does", x.move(5), 1);
        due.is("in both directions", x.move(6), 1);
        due.is("true", x.axis(1), 5);
    }

    private static void pullsOfMove(Due due, int direction, int greatest, int[] pulls) {
        for (int i = 0; i < pulls.length; i++) {
            for (int more = 0; more < 2; more++) {
                StepAxis x = new StepAxis();
                x.set(4, 100);
                x.set(2, greatest);
                int place = direction * i;
                x.load(place, place, pulls[i] + more);
                int missed = x.wouldMiss(direction * pulls.length);
                due.holds("step " + i + " of " + pulls.length + " pulls " + pulls[i],
                    missed == 0 == (more == 0));
            }
        }
    }

    private static void limitsWhenHomed(Due due) {
        StepAxis x = new StepAxis();
        x.set(5, 0);
        x.home();
        x.limits(-10, 30);
        due.is("move(31)", x.move(31), StepAxis.NOT_POSSIBLE);
        due.is("move(-11)", x.move(-11), StepAxis.NOT_POSSIBLE);
        due.is("move(4001)", x.move(4001), StepAxis.INVALID_ARGUMENT);
        due.is("moveBy(31)", x.moveBy(31), StepAxis.NOT_POSSIBLE);
        due.is("moveBy(-11)", x.moveBy(-11), StepAxis.NOT_POSSIBLE);
        due.is("moveBy(-4001)", x.moveBy(-4001), StepAxis.INVALID_ARGUMENT);
        due.is("changes so far", x.count(2), 3);
        due.is("no move is kept", x.count(1), 0);
        due.is("move(30)", x.move(30), 0);
        due.is("move(-10)", x.move(-10), 0);
        due.is("moveBy(40)", x.moveBy(40), 0);
        due.is("moveBy(1)", x.moveBy(1), StepAxis.NOT_POSSIBLE);
        x.limits(-10, 29);
        due.is("a move of no steps beyond the limits", x.move(30), StepAxis.NOT_POSSIBLE);
        due.is("by no steps", x.moveBy(0), StepAxis.NOT_POSSIBLE);
        due.is("back to within", x.move(29), 0);
        due.is("of no steps within", x.move(29), 0);
    }

    private static void movesBySteps(Due due) {
        StepAxis x = new StepAxis();
        due.is("moveBy(4000)", x.moveBy(4000), 1000);
        due.is("told", x.axis(0), 4000);
        due.is("moveBy(1)", x.moveBy(1), StepAxis.NOT_POSSIBLE);
        due.is("moveBy(4001)", x.moveBy(4001), StepAxis.INVALID_ARGUMENT);
        due.is("moveBy(-4000)", x.moveBy(-4000), 0);
        axis(due, x, 0, -1000, 8000, 1000);
        due.is("moveBy(-4000)", x.moveBy(-4000), 2000);
        due.is("moveBy(-1)", x.moveBy(-1), StepAxis.NOT_POSSIBLE);
        due.is("moveBy(0)", x.moveBy(0), 0);
        due.is("moveBy(3)", x.moveBy(3), 0);
        due.is("told", x.axis(0), -3997);
        due.is("from", x.moveOf(0, 0), -4000);
        due.is("to", x.moveOf(0, 1), -3997);
        due.is("its time", x.moveOf(0, 3), 2600);
    }

    private static void movesOfNoSteps(Due due) {
        StepAxis x = new StepAxis();
        due.is("move(0)", x.move(0), 0);
        due.is("it is kept", x.count(1), 1);
        due.is("it is a change", x.count(2), 1);
        for (int what = 0; what < 5; what++) {
            due.is("moveOf(0, " + what + ")", x.moveOf(0, what), 0);
        }
        axis(due, x, 0, 0, 0, 0);
        due.is("no time", x.axis(7), 0);
        x.set(5, 10);
        x.move(0);
        due.is("no step moves no switch", x.axis(4), 0);
    }

    private static void keptMoves(Due due) {
        StepAxis x = new StepAxis();
        x.load(8, 8, 300);
        int[] places = {1, 3, -3, 9, 9, 50};
        for (int place : places) {
            x.move(place);
        }
        int[][] want = {{9, 50, 41, 10488 + 11 * 200, 14}, {9, 9, 0, 0, 0}, {-3, 9, 1, 6254, 5},
            {3, -3, 0, 4134, 2}, {1, 3, 0, 2000, 0}};
        for (int index = 0; index < 5; index++) {
            for (int what = 0; what < 5; what++) {
                due.is("moveOf(" + index + ", " + what + ")", x.moveOf(index, what),
                    want[index][what]);
            }
        }
        due.is("no sixth one", x.moveOf(5, 0), StepAxis.NOT_FOUND);
        due.is("five are kept", x.count(1), 5);
        x.dropLoad(0);
        due.holds("home()", x.home() > 0);
        due.is("homing is none", x.moveOf(0, 1), 50);
        due.is("homing keeps them", x.count(1), 5);
        due.is("forget()", x.forget(), 5);
        due.is("none", x.count(1), 0);
        due.is("moveOf(0, 0)", x.moveOf(0, 0), StepAxis.NOT_FOUND);
        due.is("speedBits(0)", x.speedBits(0), StepAxis.NOT_FOUND);
        due.is("forget() without any", x.forget(), 0);
        due.is("the counters stay", x.axis(6) > 0 ? 1 : 0, 1);
        x.undo();
        due.is("each forgetting is a change", x.count(1), 0);
        x.undo();
        due.is("they are back", x.count(1), 5);
        x.forget();
        x.move(1);
        due.is("one", x.count(1), 1);
        due.is("no second one", x.moveOf(1, 0), StepAxis.NOT_FOUND);
    }

    private static void greatestIndexes(Due due) {
        int[] want = {0, 0, 0, 1, 1, 2, 2, 3, 3, 4, 4, 5, 5, 6, 6, 7, 7, 8, 8, 9, 9, 10, 10, 11, 11,
            12, 12, 13, 13, 14, 14, 14, 14};
        StepAxis x = new StepAxis();
        for (int steps = 0; steps < want.length; steps++) {
            x.moveBy(steps);
            due.is("greatest index of " + steps + " steps", x.moveOf(0, 4), want[steps]);
            x.moveBy(-steps);
            due.is("greatest index of " + steps + " steps down", x.moveOf(0, 4), want[steps]);
            due.is("time of " + steps + " steps down", x.moveOf(0, 3), x.timeOf(steps));
        }
        x.set(2, 1);
        x.moveBy(9);
        due.is("greatest index with a top of 1", x.moveOf(0, 4), 1);
    }

    /** "5 are kept": four, five, six and more. */
    private static void fiveAreKept(Due due) {
        StepAxis x = new StepAxis();
        for (int made = 1; made <= 12; made++) {
            x.move(made * made);
            int kept = made < 5 ? made : 5;
            due.is("kept of " + made, x.count(1), kept);
            for (int index = 0; index < kept; index++) {
                int before = made - index - 1;
                due.is("from", x.moveOf(index, 0), before * before);
                due.is("to", x.moveOf(index, 1), (before + 1) * (before + 1));
            }
            for (int what = 0; what < 5; what++) {
                due.is("none behind", x.moveOf(kept, what), StepAxis.NOT_FOUND);
            }
        }
        due.is("forget()", x.forget(), 5);
        for (int index = 0; index < 5; index++) {
            due.is("forgotten", x.moveOf(index, 1), StepAxis.NOT_FOUND);
        }
        x.undo();
        due.is("the fifth one is back", x.moveOf(4, 1), 64);
        x.undo();
        due.is("the one that was dropped for the latest, too", x.moveOf(4, 1), 49);
    }

    private static void speedsOfAllKept(Due due) {
        StepAxis x = new StepAxis();
        x.set(2, 0);
        for (int made = 1; made <= 6; made++) {
            x.set(0, 100 + made);
            x.moveBy(made % 2 == 0 ? -made : made);
        }
        for (int index = 0; index < 5; index++) {
            int made = 6 - index;
            due.is("speedBits(" + index + ")", x.speedBits(index),
                Float.floatToIntBits((float) made / (float) (made * (100 + made))));
        }
        due.is("speedBits(5)", x.speedBits(5), StepAxis.NOT_FOUND);
        due.is("speedBits(6)", x.speedBits(6), StepAxis.NOT_FOUND);
        x.moveBy(1);
        x.moveBy(0);
        x.moveBy(-1);
        due.is("of one step", x.speedBits(0), Float.floatToIntBits(1f / 106f));
        due.is("of no step", x.speedBits(1), StepAxis.NOT_FOUND);
        due.is("of one step", x.speedBits(2), Float.floatToIntBits(1f / 106f));
        x.load(-3000, 3000, 300);
        x.moveBy(3);
        due.is("all of them missed", x.moveOf(0, 2), 3);
        due.is("count all the same", x.speedBits(0), Float.floatToIntBits(3f / 318f));
    }

    /** No load is not above a pull of nothing; the least load is. */
    private static void pullOfNothing(Due due) {
        StepAxis x = new StepAxis();
        x.set(3, 1);
        x.set(4, 100);
        due.is("the pull of the index 1", x.ramp(1, 2), 0);
        due.is("no load", x.move(100), 0);
        x.load(50, 50, 1);
        due.is("the least load, at rest", x.moveBy(-50), 0);
        due.is("true", x.axis(1), 50);
        due.is("it is left with the index 0 by one step", x.wouldMiss(49), 0);
        due.is("and by more", x.wouldMiss(40), 0);
        x.move(60);
        due.is("it isn't passed with a greater one", x.move(40), 9);
        due.is("true", x.axis(1), 49);
    }

    /** The place to which a move goes, at its greatest and its least and one beyond each. */
    private static void placesByTheEnds(Due due) {
        for (int sign = -1; sign <= 1; sign += 2) {
            StepAxis x = new StepAxis();
            x.move(sign * 3998);
            due.is("by 3 beyond the end", x.moveBy(sign * 3), StepAxis.NOT_POSSIBLE);
            due.is("by as many as there are", x.moveBy(sign * 4000), StepAxis.NOT_POSSIBLE);
            due.is("by more than there are", x.moveBy(sign * 4001), StepAxis.INVALID_ARGUMENT);
            due.is("told as before", x.axis(0), sign * 3998);
            due.is("onto it", x.moveBy(sign * 2), 2);
            due.is("told", x.axis(0), sign * 4000);
            due.is("one beyond", x.moveBy(sign), StepAxis.NOT_POSSIBLE);
            due.is("to one beyond", x.move(sign * 4001), StepAxis.INVALID_ARGUMENT);
            due.is("by none", x.moveBy(0), 0);
            due.is("back by all", x.moveBy(sign * -4000), 0);
            due.is("told", x.axis(0), 0);
            due.is("true", x.axis(1), sign * -1000);
            due.is("onto the other end", x.moveBy(sign * -4000), 2000);
            due.is("told", x.axis(0), sign * -4000);
            due.is("true", x.axis(1), sign * -3000);
        }
    }

    /** Limits as far as they go: the places at them are possible, those one beyond are not. */
    private static void limitsAtTheirEnds(Due due) {
        StepAxis x = new StepAxis();
        x.set(5, 0);
        x.home();
        int[][] limits = {{-1000, 1000}, {-2000, 2000}, {0, 0}, {-5, -5}, {5, 5}, {2000, 2000},
            {-2000, -2000}};
        for (int[] l : limits) {
            due.is("limits", x.limits(l[0], l[1]), l[0] <= x.axis(0) && x.axis(0) <= l[1] ? 1 : 0);
            due.is("below the lower one", x.move(l[0] - 1), StepAxis.NOT_POSSIBLE);
            due.is("above the upper one", x.move(l[1] + 1), StepAxis.NOT_POSSIBLE);
            due.is("at the upper one", x.move(l[1]), 0);
            due.is("by one above", x.moveBy(1), StepAxis.NOT_POSSIBLE);
            due.is("at the lower one", x.move(l[0]), 0);
            due.is("by one below", x.moveBy(-1), StepAxis.NOT_POSSIBLE);
            due.is("by none", x.moveBy(0), 0);
        }
        due.is("far below", x.move(-4000), StepAxis.NOT_POSSIBLE);
        due.is("far above", x.move(4000), StepAxis.NOT_POSSIBLE);
        due.is("farther", x.move(4001), StepAxis.INVALID_ARGUMENT);
    }

    private static void wrongMoveOf(Due due) {
        StepAxis x = new StepAxis();
        x.move(1);
        int[][] invalid = {{-1, 0}, {0, -1}, {0, 5}, {7, 5}, {-1, 5}, {Integer.MIN_VALUE, 0},
            {0, Integer.MAX_VALUE}, {0, Integer.MIN_VALUE}};
        for (int[] w : invalid) {
            due.is("moveOf(" + w[0] + ", " + w[1] + ")", x.moveOf(w[0], w[1]),
                StepAxis.INVALID_ARGUMENT);
        }
        due.is("moveOf(1, 0)", x.moveOf(1, 0), StepAxis.NOT_FOUND);
        due.is("moveOf(greatest, 4)", x.moveOf(Integer.MAX_VALUE, 4), StepAxis.NOT_FOUND);
        due.is("speedBits(-1)", x.speedBits(-1), StepAxis.INVALID_ARGUMENT);
        due.is("speedBits(least)", x.speedBits(Integer.MIN_VALUE), StepAxis.INVALID_ARGUMENT);
        due.is("speedBits(1)", x.speedBits(1), StepAxis.NOT_FOUND);
        due.is("speedBits(greatest)", x.speedBits(Integer.MAX_VALUE), StepAxis.NOT_FOUND);
    }

    private static void speeds(Due due) {
        StepAxis x = new StepAxis();
        x.move(4);
        due.is("4 / 3200", x.speedBits(0), Float.floatToIntBits(4f / 3200f));
        x.move(4);
        due.is("without a step", x.speedBits(0), StepAxis.NOT_FOUND);
        due.is("the one behind", x.speedBits(1), Float.floatToIntBits(4f / 3200f));
        x.load(5, 5, 300);
        x.move(10);
        due.is("missed steps count", x.speedBits(0), Float.floatToIntBits(6f / 4134f));
        x.move(-20);
        due.is("downwards", x.speedBits(0), Float.floatToIntBits(30f / 10488f));
        x = new StepAxis();
        x.set(2, 0);
        x.set(0, 128);
        x.move(5);
        due.is("a power of two", x.speedBits(0), Float.floatToIntBits(1f / 128f));
        for (int interval = 100; interval < 300; interval++) {
            x.set(0, interval);
            x.moveBy(interval % 2 == 0 ? 7 : -7);
            due.is("one over " + interval, x.speedBits(0),
                Float.floatToIntBits(7f / (7f * interval)));
        }
        x.set(0, 5000);
        x.move(6);
        due.is("the slowest one", x.speedBits(0), Float.floatToIntBits(1f / 5000f));
        for (int interval = 4900; interval < 5000; interval++) {
            x.set(0, interval);
            int from = x.axis(0);
            int to = from > 0 ? -3999 : 3998;
            x.move(to);
            due.is("times that no float holds", x.speedBits(0),
                Float.floatToIntBits((float) Math.abs(to - from)
                / (float) (Math.abs(to - from) * interval)));
        }
        x.set(0, 100);
        x.set(1, 20);
        x.set(2, 200);
        x.move(from(x));
        due.is("the fastest one", x.speedBits(0),
            Float.floatToIntBits((float) Math.abs(x.moveOf(0, 1) - x.moveOf(0, 0))
            / (float) x.moveOf(0, 3)));
    }

    private static int from(StepAxis x) {
        return x.axis(0) > 0 ? -4000 : 4000;
    }
}
