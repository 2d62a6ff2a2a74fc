/** "At most 512 calls": as many of them as go farthest, to the last one. */
public final class LongLifeTest {
    private static final int CALLS = 512;
    private static final String TEXT = "g4000;g-4000;g4000;g-4000;g4000;g-4000;g4000;g-4000;g4000;";

    public static void main(String[] args) {
        Due due = new Due();
        farthestTexts(due);
        manyMoves(due);
        manyHomings(due);
        manyChangesUndone(due);
        due.end();
    }

    /** Each text but the first goes 8 times from one end to the other; 2000 steps of each are missed. */
    private static void farthestTexts(Due due) {
        StepAxis x = Due.withText(TEXT);
        int calls = TEXT.length();
        long steps = 4000;
        long missed = 1000;
        long time = 4000 * 1000;
        x.set(2, 0);
        calls++;
        while (calls < CALLS - 10) {
            due.is("play()", x.play(), 9);
            calls++;
            steps += 8 * 8000;
            missed += 8 * 2000;
            time += 8 * 8000 * 1000;
        }
        due.is("steps", x.axis(5), steps);
        due.is("missed", x.axis(6), missed);
        due.is("time", x.axis(7), time % 1000000);
        due.is("told", x.axis(0), 4000);
        due.is("true", x.axis(1), 3000);
        due.is("slip", x.axis(2), 1000);
        due.is("moves", x.count(1), 5);
        due.is("time of a move", x.moveOf(0, 3), 8000000);
        due.is("undo()", x.undo(), 3);
        due.is("steps", x.axis(5), steps - 8 * 8000);
    }

    private static void manyMoves(Due due) {
        StepAxis x = new StepAxis();
        for (int call = 1; call <= 507; call++) {
            x.moveBy(call % 2 == 0 ? -call : call);
        }
        due.is("told", x.axis(0), 254);
        due.is("true", x.axis(1), 254);
        due.is("steps", x.axis(5), 507 * 508 / 2);
        due.is("states", x.count(2), 4);
        due.is("the oldest kept move", x.moveOf(4, 1) - x.moveOf(4, 0), 503);
    }

    private static void manyHomings(Due due) {
        StepAxis x = new StepAxis();
        due.is("home()", x.home(), 436);
        for (int call = 2; call <= CALLS - 2; call++) {
            due.is("home()", x.home(), 8);
        }
        due.is("steps", x.axis(5), 436 + 8 * (CALLS - 3));
        due.is("time", x.axis(7), (109288 + 8000L * (CALLS - 3)) % 1000000);
    }

    /** Each round fills the loads up if it can, and gives the last one back. */
    private static void manyChangesUndone(Due due) {
        StepAxis x = new StepAxis();
        for (int round = 0; round < 102; round++) {
            for (int change = 0; change < 4; change++) {
                x.load(round, round, change + 1);
            }
            due.is("undo()", x.undo(), 3);
        }
        due.is("loads", x.count(0), 5);
        int[] weights = {1, 2, 3, 1, 2};
        for (int index = 0; index < 5; index++) {
            due.is("the weight of load " + index, x.loadOf(index, 2), weights[index]);
        }
    }
}
