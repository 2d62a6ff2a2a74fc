/** Promises 4 to 7: load, dropLoad, loadOf and loadAt. */
public final class LoadsTest {
    public static void main(String[] args) {
        Due due = new Due();
        adding(due);
        wrongLoads(due);
        dropping(due);
        parts(due);
        sums(due);
        greatestSum(due);
        heldSteps(due);
        due.end();
    }

    private static void adding(Due due) {
        StepAxis x = new StepAxis();
        due.is("load from end to end", x.load(-3000, 3000, 1), 0);
        due.is("load of one place", x.load(5, 5, 300), 1);
        due.is("load at the lower end", x.load(-3000, -3000, 2), 2);
        due.is("load at the upper end", x.load(3000, 3000, 3), 3);
        due.is("the same once more", x.load(5, 5, 300), 4);
        due.is("load 5", x.load(0, 1, 9), 5);
        due.is("a seventh one", x.load(0, 1, 9), StepAxis.LIMIT_REACHED);
        due.is("a seventh one, invalid", x.load(0, 1, 0), StepAxis.INVALID_ARGUMENT);
        due.is("how many", x.count(0), 6);
        due.is("the history", x.count(2), 4);
        x.dropLoad(0);
        due.is("room again", x.load(0, 0, 1), 5);
        due.is("and full again", x.load(0, 0, 1), StepAxis.LIMIT_REACHED);
        x.undo();
        due.is("room by undo", x.load(1, 2, 3), 5);
    }

    private static void wrongLoads(Due due) {
        StepAxis x = new StepAxis();
        int[][] wrong = {{-3001, 0, 1}, {3001, 3001, 1}, {3001, 3000, 1}, {-2999, -3000, 1},
            {3000, 2999, 1}, {-3000, -3001, 1}, {-3001, -3001, 1}, {3000, 3001, 1}, {0, 3001, 1}, {1, 0, 1}, {0, 0, 0},
            {0, 0, 301}, {0, 0, -1}, {Integer.MIN_VALUE, 0, 1}, {0, Integer.MAX_VALUE, 1},
            {0, 0, Integer.MAX_VALUE}, {0, Integer.MIN_VALUE, 1}};
        for (int[] w : wrong) {
            due.is("load(" + w[0] + ", " + w[1] + ", " + w[2] + ")", x.load(w[0], w[1], w[2]),
                StepAxis.INVALID_ARGUMENT);
        }
        due.is("no load", x.count(0), 0);
        due.is("no change", x.count(2), 0);
    }

    /** "The sum of the weights of all loads there": six of the greatest ones. */
    private static void greatestSum(Due due) {
        StepAxis x = new StepAxis();
        for (int i = 0; i < 6; i++) {
            x.load(i, 10, 300);
            due.is("the sum of " + (i + 1), x.loadAt(10), 300 * (i + 1));
        }
        for (int place = 0; place < 6; place++) {
            due.is("loadAt(" + place + ")", x.loadAt(place), 300 * (place + 1));
        }
        due.is("ahead of all", x.loadAt(-1), 0);
        due.is("behind all", x.loadAt(11), 0);
        x = new StepAxis();
        x.set(3, 300);
        x.load(0, 0, 150);
        x.load(0, 0, 150);
        due.is("a sum that is the pull", x.wouldMiss(1), 0);
        x.load(0, 0, 1);
        due.is("a sum that is one more", x.wouldMiss(1), 1);
    }

    /** "(both included)": the steps that begin at each end of a load are held, the next ones not. */
    private static void heldSteps(Due due) {
        int[][] ends = {{4, 6}, {5, 5}, {-6, -4}, {-3000, -2998}, {2998, 3000}};
        for (int[] e : ends) {
            StepAxis x = new StepAxis();
            x.load(e[0], e[1], 101);
            if (e[0] > 0) {
                due.is("up to the nearer end", x.wouldMiss(e[0]), 0);
                due.is("one more", x.wouldMiss(e[0] + 1), 1);
            } else {
                due.is("down to the nearer end", x.wouldMiss(e[1]), 0);
                due.is("one more", x.wouldMiss(e[1] - 1), 1);
            }
            for (int place = Math.max(-3000, e[0] - 1); place <= Math.min(3000, e[1] + 1); place++) {
                due.is("loadAt(" + place + ")", x.loadAt(place),
                    place < e[0] || place > e[1] ? 0 : 101);
            }
        }
        StepAxis x = new StepAxis();
        x.move(10);
        x.load(4, 6, 101);
        due.is("down to the upper end", x.wouldMiss(6), 0);
        due.is("one more", x.wouldMiss(5), 1);
        x.dropLoad(0);
        x.move(7);
        x.load(4, 6, 101);
        due.is("a step that begins one above the upper end", x.move(6), 0);
        due.is("one that begins at it", x.move(5), 1);
        x.dropLoad(0);
        x.move(2);
        due.is("true", x.axis(1), 3);
        x.load(4, 6, 101);
        due.is("a step that begins one below the lower end", x.move(3), 0);
        due.is("one that begins at it", x.move(4), 1);
    }

    private static StepAxis withSix() {
        StepAxis x = new StepAxis();
        for (int i = 0; i < 6; i++) {
            x.load(10 * i, 10 * i + 5 + i, 100 + i);
        }
        return x;
    }

    private static void dropping(Due due) {
        StepAxis x = withSix();
        due.is("dropLoad(6)", x.dropLoad(6), StepAxis.NOT_POSSIBLE);
        due.is("dropLoad(-1)", x.dropLoad(-1), StepAxis.INVALID_ARGUMENT);
        due.is("dropLoad(least)", x.dropLoad(Integer.MIN_VALUE), StepAxis.INVALID_ARGUMENT);
        due.is("dropLoad(greatest)", x.dropLoad(Integer.MAX_VALUE), StepAxis.NOT_POSSIBLE);
        due.is("still six", x.count(0), 6);
        due.is("dropLoad(2)", x.dropLoad(2), 102);
        due.is("five", x.count(0), 5);
        due.is("load 1 stays", x.loadOf(1, 2), 101);
        due.is("load 2 from", x.loadOf(2, 0), 30);
        due.is("load 2 to", x.loadOf(2, 1), 38);
        due.is("load 2 weight", x.loadOf(2, 2), 103);
        due.is("load 4 weight", x.loadOf(4, 2), 105);
        due.is("load 5 is gone", x.loadOf(5, 2), StepAxis.NOT_FOUND);
        due.is("no load where it was", x.loadAt(20), 0);
        due.is("the last one", x.dropLoad(4), 105);
        due.is("the first one", x.dropLoad(0), 100);
        due.is("now ahead", x.loadOf(0, 2), 101);
        due.is("dropLoad(0)", x.dropLoad(0), 101);
        due.is("dropLoad(0)", x.dropLoad(0), 103);
        due.is("dropLoad(0)", x.dropLoad(0), 104);
        due.is("none is left", x.dropLoad(0), StepAxis.NOT_POSSIBLE);
        due.is("none", x.count(0), 0);
        due.is("no load at all", x.loadAt(40), 0);
    }

    private static void parts(Due due) {
        StepAxis x = withSix();
        for (int i = 0; i < 6; i++) {
            due.is("from", x.loadOf(i, 0), 10 * i);
            due.is("to", x.loadOf(i, 1), 11 * i + 5);
            due.is("weight", x.loadOf(i, 2), 100 + i);
            due.is("what 3", x.loadOf(i, 3), StepAxis.INVALID_ARGUMENT);
            due.is("what -1", x.loadOf(i, -1), StepAxis.INVALID_ARGUMENT);
        }
        due.is("loadOf(6, 0)", x.loadOf(6, 0), StepAxis.NOT_FOUND);
        due.is("loadOf(6, 3)", x.loadOf(6, 3), StepAxis.INVALID_ARGUMENT);
        due.is("loadOf(-1, 0)", x.loadOf(-1, 0), StepAxis.INVALID_ARGUMENT);
        due.is("loadOf(greatest, 2)", x.loadOf(Integer.MAX_VALUE, 2), StepAxis.NOT_FOUND);
        due.is("loadOf(least, 2)", x.loadOf(Integer.MIN_VALUE, 2), StepAxis.INVALID_ARGUMENT);
        due.is("loadOf(0, greatest)", x.loadOf(0, Integer.MAX_VALUE), StepAxis.INVALID_ARGUMENT);
    }

    private static void sums(Due due) {
        StepAxis x = new StepAxis();
        x.load(-3000, -3000, 7);
        x.load(10, 20, 300);
        x.load(20, 30, 300);
        x.load(15, 25, 300);
        x.load(3000, 3000, 11);
        int[][] want = {{-3000, 7}, {-2999, 0}, {9, 0}, {10, 300}, {14, 300}, {15, 600}, {20, 900},
            {21, 600}, {25, 600}, {26, 300}, {30, 300}, {31, 0}, {2999, 0}, {3000, 11}};
        for (int[] w : want) {
            due.is("loadAt(" + w[0] + ")", x.loadAt(w[0]), w[1]);
        }
        int[] wrong = {-3001, 3001, Integer.MIN_VALUE, Integer.MAX_VALUE};
        for (int place : wrong) {
            due.is("loadAt(" + place + ")", x.loadAt(place), StepAxis.INVALID_ARGUMENT);
        }
    }
}
