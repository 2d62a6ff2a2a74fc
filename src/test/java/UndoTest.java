/** Promise 22, and the history of each change. */
public final class UndoTest {
    public static void main(String[] args) {
        Due due = new Due();
        everyChange(due);
        errorsRecordNothing(due);
        fourStates(due);
        fourAndFive(due);
        fiveOfEachChange(due);
        behindUndo(due);
        theTextStays(due);
        theRampFollows(due);
        due.end();
    }

    private static StepAxis prepared() {
        StepAxis x = new StepAxis();
        x.set(5, -3);
        x.set(7, 3);
        x.load(10, 20, 97);
        x.load(30, 40, 50);
        x.move(50);
        x.home();
        x.move(60);
        Due.type(x, "r5;z;");
        return x;
    }

    private static int change(StepAxis x, int which) {
        switch (which) {
            case 0: return x.set(0, 777);
            case 1: return x.limits(-7, 77);
            case 2: return x.load(1, 2, 3);
            case 3: return x.dropLoad(0);
            case 4: return x.move(10);
            case 5: return x.moveBy(9);
            case 6: return x.home();
            case 7: return x.forget();
            case 8: return x.play();
            case 9: return x.set(3, 100);
            case 10: return x.limits(-1000, 1000);
            case 11: return x.move(60);
            default: return x.moveBy(0);
        }
    }

    private static void everyChange(Due due) {
        for (int which = 0; which <= 12; which++) {
            StepAxis x = prepared();
            String before = Due.picture(x);
            due.is("a full history", x.count(2), 4);
            due.holds("change " + which + " is possible", change(x, which) > -1000001);
            String behind = Due.picture(x);
            due.holds("change " + which + " shows", which == 9 || which == 10
                || !behind.equals(before));
            due.is("still full", x.count(2), 4);
            due.is("undo()", x.undo(), 3);
            due.holds("as before change " + which, Due.picture(x).equals(before));
            due.holds("change " + which + " again", change(x, which) > -1000001);
            due.holds("the same again", Due.picture(x).equals(behind));
        }
    }

    private static void errorsRecordNothing(Due due) {
        StepAxis x = prepared();
        x.undo();
        String before = Due.picture(x);
        int[] answers = {x.set(8, 0), x.set(0, 0), x.limits(1, 0), x.load(0, 0, 0), x.dropLoad(-1),
            x.dropLoad(2), x.move(4001), x.move(1001), x.moveBy(4001), x.moveBy(2000)};
        for (int answer : answers) {
            due.holds("an error: " + answer, answer <= -1000001);
        }
        x.type('?');
        due.is("play()", x.play(), StepAxis.NOT_POSSIBLE);
        due.is("the history", x.count(2), 3);
        due.holds("nothing changed", Due.picture(x).equals(before));
    }

    private static void fourStates(Due due) {
        StepAxis x = new StepAxis();
        due.is("undo() at first", x.undo(), StepAxis.NOT_POSSIBLE);
        for (int place = 1; place <= 7; place++) {
            x.move(place);
            due.is("states", x.count(2), Math.min(place, 4));
        }
        for (int left = 3; left >= 0; left--) {
            due.is("undo()", x.undo(), left);
            due.is("told", x.axis(0), 3 + left);
            due.is("moves", x.count(1), Math.min(5, 3 + left));
        }
        due.is("the oldest ones are dropped", x.undo(), StepAxis.NOT_POSSIBLE);
        due.is("told", x.axis(0), 3);
        due.is("steps", x.axis(5), 3);
    }

    /** Four changes can all be undone; of five, the first one can't. */
    private static void fourAndFive(Due due) {
        for (int changes = 1; changes <= 6; changes++) {
            StepAxis x = new StepAxis();
            String[] pictures = new String[changes];
            for (int i = 0; i < changes; i++) {
                pictures[i] = Due.picture(x);
                x.limits(-i, i);
            }
            for (int left = Math.min(changes, 4) - 1; left >= 0; left--) {
                due.is("undo() of " + changes, x.undo(), left);
                due.holds("as it was", Due.picture(x).equals(
                    pictures[changes - Math.min(changes, 4) + left]));
            }
            due.is("undo() of none", x.undo(), StepAxis.NOT_POSSIBLE);
            due.holds("stays as it was", Due.picture(x).equals(
                pictures[changes - Math.min(changes, 4)]));
        }
    }

    /** Each change, five times over, drops what was recorded ahead of it. */
    private static void fiveOfEachChange(Due due) {
        for (int which = 0; which <= 12; which++) {
            if (which == 3) {
                continue;
            }
            StepAxis x = new StepAxis();
            x.set(5, -3);
            x.limits(-500, 500);
            for (int made = 1; made <= 5; made++) {
                due.holds("change " + which, change(x, which) > -1000001);
                due.is("states", x.count(2), Math.min(made + 2, 4));
            }
            for (int left = 3; left >= 0; left--) {
                due.is("undo()", x.undo(), left);
            }
            due.is("undo()", x.undo(), StepAxis.NOT_POSSIBLE);
            due.is("a change ahead of those stays", x.count(15), -3);
        }
    }

    private static void behindUndo(Due due) {
        StepAxis x = new StepAxis();
        for (int place = 1; place <= 6; place++) {
            x.move(place);
        }
        x.undo();
        x.undo();
        x.move(20);
        due.is("three states", x.count(2), 3);
        due.is("undo()", x.undo(), 2);
        due.is("told", x.axis(0), 4);
        due.is("undo is no change", x.undo(), 1);
        due.is("told", x.axis(0), 3);
        due.is("undo()", x.undo(), 0);
        due.is("told", x.axis(0), 2);
        due.is("undo()", x.undo(), StepAxis.NOT_POSSIBLE);
        due.is("told", x.axis(0), 2);
    }

    private static void theTextStays(Due due) {
        StepAxis x = new StepAxis();
        x.move(1);
        Due.type(x, "g5;");
        x.undo();
        due.is("the text stays", x.count(3), 3);
        due.is("typing is no change", x.undo(), StepAxis.NOT_POSSIBLE);
        due.is("play()", x.play(), 1);
        x.clearText();
        due.is("clearing is no change", x.count(2), 1);
        due.is("undo()", x.undo(), 0);
        due.is("told", x.axis(0), 0);
        due.is("the text stays empty", x.count(3), 0);
    }

    private static void theRampFollows(Due due) {
        StepAxis x = new StepAxis();
        x.set(0, 2000);
        due.is("ramp", x.ramp(0, 0), 2000);
        x.undo();
        due.is("ramp", x.ramp(0, 0), 1000);
        due.is("top", x.top(), 14);
        x.set(3, 50);
        due.is("pull", x.ramp(0, 2), 50);
        x.undo();
        due.is("pull", x.ramp(0, 2), 100);
    }
}
