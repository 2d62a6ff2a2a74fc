/**
 * "INVALID_ARGUMENT is returned rather than NOT_POSSIBLE, NOT_POSSIBLE rather than LIMIT_REACHED,
 * and LIMIT_REACHED rather than NOT_FOUND", and "A call that returns an error changes nothing".
 */
public final class ErrorsTest {
    private static final int INVALID = StepAxis.INVALID_ARGUMENT;
    private static final int IMPOSSIBLE = StepAxis.NOT_POSSIBLE;
    private static final int FULL = StepAxis.LIMIT_REACHED;
    private static final int ABSENT = StepAxis.NOT_FOUND;
    private static final int LEAST = Integer.MIN_VALUE;
    private static final int GREATEST = Integer.MAX_VALUE;

    /** A call that is refused: its name, its arguments, its answer. */
    private static final class Refused {
        private final String name;
        private final int a;
        private final int b;
        private final int c;
        private final int answer;

        Refused(String name, int answer, int... arguments) {
            this.name = name;
            this.answer = answer;
            a = arguments.length > 0 ? arguments[0] : 0;
            b = arguments.length > 1 ? arguments[1] : 0;
            c = arguments.length > 2 ? arguments[2] : 0;
        }

        @Override
        public String toString() {
            return name + "(" + a + ", " + b + ", " + c + ")";
        }

        int ask(StepAxis x) {
            for (int number = 0; number < AxisModel.NAMES.length; number++) {
                if (AxisModel.NAMES[number].equals(name)) {
                    return Face.call(x, number, a, b, c);
                }
            }
            throw new IllegalStateException(name);
        }
    }

    /** Homed, with six loads, five moves, four states and 60 characters: all that can be full is. */
    private static StepAxis full() {
        StepAxis x = new StepAxis();
        x.set(5, -2);
        x.set(4, 100);
        x.home();
        x.limits(-30, 40);
        Due.type(x, "z;z;z;z;z;z;z;z;z;z;z;z;z;z;z;z;z;z;z;z;z;z;z;z;z;h;g41;h;r0");
        for (int i = 0; i < 6; i++) {
            x.load(10 * i, 10 * i + 3, 40 + 20 * i);
        }
        for (int i = 0; i < 5; i++) {
            x.move(i % 2 == 0 ? 12 - i : 3 * i);
        }
        return x;
    }

    /** As new, but for one load and one move that left it at 3999, and a character that is wrong. */
    private static StepAxis open() {
        StepAxis x = new StepAxis();
        x.load(3000, 3000, 7);
        x.move(3999);
        x.type('?');
        return x;
    }

    private static StepAxis stuck() {
        StepAxis x = new StepAxis();
        x.load(-3000, 3000, 300);
        return x;
    }

    private static final Refused[] WHEN_FULL = {
        new Refused("set", INVALID, 0, 99), new Refused("set", INVALID, 8, 100),
        new Refused("set", INVALID, -1, 100), new Refused("set", INVALID, LEAST, GREATEST),
        new Refused("limits", INVALID, -2001, 0), new Refused("limits", INVALID, 0, 2001),
        new Refused("limits", INVALID, 1, 0), new Refused("load", INVALID, -3001, 0, 1),
        new Refused("load", INVALID, 0, 3001, 1), new Refused("load", INVALID, 1, 0, 1),
        new Refused("load", INVALID, 0, 0, 0), new Refused("load", INVALID, 0, 0, 301),
        new Refused("load", FULL, 0, 0, 1), new Refused("load", FULL, -3000, 3000, 300),
        new Refused("dropLoad", INVALID, -1), new Refused("dropLoad", IMPOSSIBLE, 6),
        new Refused("dropLoad", INVALID, LEAST), new Refused("dropLoad", IMPOSSIBLE, GREATEST),
        new Refused("loadOf", INVALID, -1, 0), new Refused("loadOf", INVALID, 6, 3),
        new Refused("loadOf", INVALID, 6, -1), new Refused("loadOf", ABSENT, 6, 2),
        new Refused("loadAt", INVALID, 3001), new Refused("loadAt", INVALID, -3001),
        new Refused("ramp", INVALID, -1, 0), new Refused("ramp", INVALID, 15, 4),
        new Refused("ramp", INVALID, 15, -1), new Refused("ramp", ABSENT, 15, 3),
        new Refused("timeOf", INVALID, -1), new Refused("timeOf", INVALID, 6001),
        new Refused("move", INVALID, 4001), new Refused("move", INVALID, -4001),
        new Refused("move", IMPOSSIBLE, 4000), new Refused("move", IMPOSSIBLE, -4000),
        new Refused("move", IMPOSSIBLE, 41), new Refused("move", IMPOSSIBLE, -31),
        new Refused("moveBy", INVALID, 4001), new Refused("moveBy", INVALID, -4001),
        new Refused("moveBy", INVALID, LEAST), new Refused("moveBy", INVALID, GREATEST),
        new Refused("moveBy", IMPOSSIBLE, 4000), new Refused("moveBy", IMPOSSIBLE, -4000),
        new Refused("axis", INVALID, -1), new Refused("axis", INVALID, 10),
        new Refused("moveOf", INVALID, -1, 0), new Refused("moveOf", INVALID, 5, 5),
        new Refused("moveOf", INVALID, 5, -1), new Refused("moveOf", ABSENT, 5, 0),
        new Refused("count", INVALID, 4), new Refused("count", INVALID, 18),
        new Refused("wouldMiss", INVALID, 4001), new Refused("wouldMiss", IMPOSSIBLE, 41),
        new Refused("safe", INVALID, 4001), new Refused("safe", IMPOSSIBLE, -31),
        new Refused("firstMiss", INVALID, -4001), new Refused("firstMiss", IMPOSSIBLE, 41),
        new Refused("firstMiss", ABSENT, 8), new Refused("speedBits", INVALID, -1),
        new Refused("speedBits", ABSENT, 5), new Refused("type", INVALID, 31),
        new Refused("type", INVALID, 127), new Refused("type", FULL, 32),
        new Refused("type", FULL, 126), new Refused("fault", INVALID, -1),
        new Refused("fault", INVALID, 3), new Refused("play", IMPOSSIBLE)
    };

    private static final Refused[] WHEN_OPEN = {
        new Refused("moveBy", IMPOSSIBLE, 2), new Refused("moveBy", IMPOSSIBLE, 4000),
        new Refused("moveBy", INVALID, 4001), new Refused("move", INVALID, 4001),
        new Refused("wouldMiss", INVALID, 4001), new Refused("safe", INVALID, -4001),
        new Refused("safe", ABSENT, 4000), new Refused("firstMiss", ABSENT, 3999),
        new Refused("dropLoad", IMPOSSIBLE, 1), new Refused("loadOf", ABSENT, 1, 0),
        new Refused("moveOf", ABSENT, 1, 0), new Refused("speedBits", ABSENT, 1),
        new Refused("fault", INVALID, 3), new Refused("fault", ABSENT, 2),
        new Refused("home", IMPOSSIBLE), new Refused("play", IMPOSSIBLE)
    };

    private static final Refused[] WHEN_STUCK = {
        new Refused("home", IMPOSSIBLE), new Refused("safe", ABSENT, 1),
        new Refused("firstMiss", ABSENT, 0), new Refused("moveOf", INVALID, 0, 5),
        new Refused("moveOf", ABSENT, 0, 4), new Refused("speedBits", INVALID, -1),
        new Refused("speedBits", ABSENT, 0), new Refused("fault", INVALID, -1),
        new Refused("fault", ABSENT, 0), new Refused("fault", ABSENT, 1),
        new Refused("fault", ABSENT, 2), new Refused("dropLoad", INVALID, -1),
        new Refused("dropLoad", IMPOSSIBLE, 1)
    };

    private static final Refused[] WHEN_NEW = {
        new Refused("undo", IMPOSSIBLE), new Refused("dropLoad", INVALID, -1),
        new Refused("dropLoad", IMPOSSIBLE, 0), new Refused("loadOf", ABSENT, 0, 0),
        new Refused("loadOf", INVALID, 0, 3), new Refused("moveOf", ABSENT, 0, 0)
    };

    public static void main(String[] args) {
        Due due = new Due();
        allIsFull(due);
        refusals(due, "full", full(), full(), WHEN_FULL);
        StepAxis far = open();
        far.set(5, -2900);
        StepAxis twin = open();
        twin.set(5, -2900);
        refusals(due, "open", far, twin, WHEN_OPEN);
        refusals(due, "stuck", stuck(), stuck(), WHEN_STUCK);
        refusals(due, "new", new StepAxis(), new StepAxis(), WHEN_NEW);
        due.end();
    }

    private static void allIsFull(Due due) {
        StepAxis x = full();
        due.is("loads", x.count(0), 6);
        due.is("moves", x.count(1), 5);
        due.is("states", x.count(2), 4);
        due.is("characters", x.count(3), 60);
        due.is("homed", x.axis(3), 1);
        due.is("where the text is at fault", x.fault(0), 52);
        due.is("its reason", x.fault(1), 2);
        due.is("its cause", x.fault(2), IMPOSSIBLE);
    }

    /** The twin is asked nothing that is refused: in the end both have the same past. */
    private static void refusals(Due due, String name, StepAxis x, StepAxis twin, Refused[] calls) {
        String before = whole(x);
        for (int round = 0; round < 2; round++) {
            for (Refused call : calls) {
                due.is(name + ": " + call, call.ask(x), call.answer);
                due.holds(name + ": " + call + " changes nothing", whole(x).equals(before));
            }
        }
        due.holds(name + ": alike", whole(x).equals(whole(twin)));
        for (int left = 4; left > 0; left--) {
            due.is(name + ": undo()", x.undo(), twin.undo());
            due.holds(name + ": the same history", whole(x).equals(whole(twin)));
        }
        due.is(name + ": type", x.type(';'), twin.type(';'));
        due.is(name + ": clearText", x.clearText(), twin.clearText());
    }

    private static String whole(StepAxis x) {
        return Due.picture(x) + x.count(2) + " " + x.count(3) + " " + x.fault(0) + " " + x.fault(1)
            + " " + x.fault(2);
    }
}
