/**
 * A stepping axis: ramps of intervals, moves of steps, loads that make steps be missed, hard ends,
 * a switch with play, homing, soft limits, commands as texts, and undo. The promises that the
 * comments speak of stand in the document of the project.
 *
 * Every change is tried on a second state first and taken over only if it is possible, so that a
 * call that answers an error has changed nothing.
 */
public final class StepAxis {
    public static final int INVALID_ARGUMENT = -1000001;
    public static final int NOT_POSSIBLE = -1000002;
    public static final int LIMIT_REACHED = -1000003;
    public static final int NOT_FOUND = -1000004;

    private static final int HARD_END = 3000;
    private static final int FARTHEST_PLACE = 4000;
    private static final int FARTHEST_LIMIT = 2000;
    private static final int FIRST_LIMIT = 1000;
    private static final int LONGEST_TIMED = 6000;
    private static final int MOST_PART_STEPS = 4000;
    private static final int TIME_ROUND = 1000000;
    private static final int MOST_INDEX = 200;

    private static final int MOST_LOADS = 6;
    private static final int MOST_WEIGHT = 300;
    private static final int MOST_MOVES = 5;
    private static final int MOST_STATES = 4;
    private static final int MOST_SIGNS = 60;
    private static final int MOST_DIGITS = 4;

    private static final int FIRST_INTERVAL = 0;
    private static final int LEAST_INTERVAL = 1;
    private static final int GREATEST_INDEX = 2;
    private static final int PULL_AT_REST = 3;
    private static final int LOSS_OF_PULL = 4;
    private static final int SWITCH_PLACE = 5;
    private static final int SWITCH_PLAY = 6;
    private static final int HOMING_INDEX = 7;
    private static final int SETTINGS = 8;
    private static final int[] LEAST_SETTINGS = {100, 20, 0, 1, 0, -2900, 0, 0};
    private static final int[] GREATEST_SETTINGS = {5000, 1000, 200, 300, 100, 2900, 50, 200};
    private static final int[] FIRST_SETTINGS = {1000, 200, 60, 100, 8, -400, 3, 20};

    private static final int MOVE_FROM = 0;
    private static final int MOVE_TO = 1;
    private static final int MOVE_MISSED = 2;
    private static final int MOVE_TIME = 3;
    private static final int MOVE_GREATEST = 4;
    private static final int MOVE_WIDTH = 5;

    private static final int DOWN = -1;
    private static final int UP = 1;

    private static final int NO_FAULT = 0;
    private static final int BAD_FORM = 1;
    private static final int REFUSED = 2;

    private final State now = new State();
    private final State trial = new State();
    private final History history = new History();
    private final Drive drive = new Drive();
    private final Script script = new Script();
    private final Rehearsal rehearsal = new Rehearsal();

    public StepAxis() {
    }

    // ---- settings, limits, loads

    public int set(int what, int value) {
        return settle(begin().putSetting(what, value));
    }

    public int limits(int low, int high) {
        return settle(begin().putLimits(low, high));
    }

    public int load(int from, int to, int weight) {
        return settle(begin().loads.add(from, to, weight));
    }

    public int dropLoad(int index) {
        return settle(begin().loads.drop(index));
    }

    public int loadOf(int index, int what) {
        return now.loads.part(index, what);
    }

    public int loadAt(int place) {
        return within(place, -HARD_END, HARD_END) ? now.loads.weightAt(place) : INVALID_ARGUMENT;
    }

    // ---- ramps

    public int ramp(int n, int what) {
        if (n < 0 || !within(what, 0, 3)) {
            return INVALID_ARGUMENT;
        }
        Ramp ramp = drive.rampOf(now);
        if (n > ramp.last) {
            return NOT_FOUND;
        }
        switch (what) {
            case 0:
                return ramp.interval(n);
            case 1:
                return ramp.rest(n);
            case 2:
                return ramp.pull(n);
            default:
                return ramp.sum(n);
        }
    }

    public int top() {
        return drive.rampOf(now).last;
    }

    public int timeOf(int steps) {
        return within(steps, 0, LONGEST_TIMED) ? drive.rampOf(now).time(steps) : INVALID_ARGUMENT;
    }

    // ---- moves

    public int move(int place) {
        return settle(drive.goTo(begin(), place));
    }

    public int moveBy(int steps) {
        return settle(drive.goBy(begin(), steps));
    }

    public int home() {
        return settle(drive.seekSwitch(begin()));
    }

    public int forget() {
        return settle(begin().moves.empty());
    }

    // ---- what there is

    public int axis(int what) {
        switch (what) {
            case 0:
                return now.told;
            case 1:
                return now.place;
            case 2:
                return now.told - now.place - now.homeDifference;
            case 3:
                return now.homed ? 1 : 0;
            case 4:
                return now.closed ? 1 : 0;
            case 5:
                return now.steps;
            case 6:
                return now.missed;
            case 7:
                return now.time;
            case 8:
                return now.low;
            case 9:
                return now.high;
            default:
                return INVALID_ARGUMENT;
        }
    }

    public int moveOf(int index, int what) {
        return now.moves.part(index, what);
    }

    public int count(int what) {
        switch (what) {
            case 0:
                return now.loads.size;
            case 1:
                return now.moves.size;
            case 2:
                return history.size;
            case 3:
                return script.length;
            default:
                return within(what, 10, 9 + SETTINGS) ? now.settings[what - 10] : INVALID_ARGUMENT;
        }
    }

    // ---- what would be

    public int wouldMiss(int place) {
        return drive.goTo(begin(), place);
    }

    public int safe(int place) {
        return drive.greatestSafe(now, place);
    }

    public int firstMiss(int place) {
        return drive.firstMissPlace(now, place);
    }

    public int speedBits(int index) {
        return now.moves.speed(index);
    }

    public int undo() {
        return history.restore(now);
    }

    // ---- texts

    public int type(int character) {
        return script.append(character);
    }

    public int clearText() {
        return script.empty();
    }

    public int fault(int what) {
        if (!within(what, 0, 2)) {
            return INVALID_ARGUMENT;
        }
        rehearsal.run(script, begin(), drive);
        if (rehearsal.reason == NO_FAULT) {
            return NOT_FOUND;
        }
        if (what == 0) {
            return rehearsal.position;
        }
        if (what == 1) {
            return rehearsal.reason;
        }
        return rehearsal.reason == REFUSED ? rehearsal.cause : NOT_FOUND;
    }

    public int play() {
        rehearsal.run(script, begin(), drive);
        return settle(rehearsal.reason == NO_FAULT ? rehearsal.done : NOT_POSSIBLE);
    }

    private State begin() {
        trial.copyFrom(now);
        return trial;
    }

    private int settle(int answer) {
        if (!isError(answer)) {
            history.keep(now);
            now.copyFrom(trial);
        }
        return answer;
    }

    /** The settings that calls answer may be negative, too, but none is as low as an error code. */
    private static boolean isError(int answer) {
        return answer <= INVALID_ARGUMENT;
    }

    private static boolean within(int value, int least, int greatest) {
        return value >= least && value <= greatest;
    }

    private static boolean isBeyondEnd(int place) {
        return place < -HARD_END || place > HARD_END;
    }

    /** The loads along the way. */
    private static final class Loads {
        private final int[] from = new int[MOST_LOADS];
        private final int[] to = new int[MOST_LOADS];
        private final int[] weight = new int[MOST_LOADS];
        private int size;

        int add(int low, int high, int heavy) {
            if (!within(low, -HARD_END, HARD_END) || !within(high, low, HARD_END)
                    || !within(heavy, 1, MOST_WEIGHT)) {
                return INVALID_ARGUMENT;
            }
            int number = size;
            if (number >= MOST_LOADS) {
                return LIMIT_REACHED;
            }
            from[number] = low;
            to[number] = high;
            weight[number] = heavy;
            size = number + 1;
            return number;
        }

        int drop(int index) {
            if (index < 0) {
                return INVALID_ARGUMENT;
            }
            if (index >= size) {
                return NOT_POSSIBLE;
            }
            int dropped = weight[index];
            for (int i = index + 1; i < size; i++) {
                from[i - 1] = from[i];
                to[i - 1] = to[i];
                weight[i - 1] = weight[i];
            }
            size--;
            return dropped;
        }

        int part(int index, int what) {
            if (index < 0 || !within(what, 0, 2)) {
                return INVALID_ARGUMENT;
            }
            if (index >= size) {
                return NOT_FOUND;
            }
            if (what == 0) {
                return from[index];
            }
            return what == 1 ? to[index] : weight[index];
        }

        int weightAt(int place) {
            int sum = 0;
            for (int i = 0; i < size; i++) {
                if (place >= from[i] && place <= to[i]) {
                    sum += weight[i];
                }
            }
            return sum;
        }

        void copyFrom(Loads other) {
            System.arraycopy(other.from, 0, from, 0, MOST_LOADS);
            System.arraycopy(other.to, 0, to, 0, MOST_LOADS);
            System.arraycopy(other.weight, 0, weight, 0, MOST_LOADS);
            size = other.size;
        }
    }

    /** The latest moves, the latest one ahead, MOVE_WIDTH cells each. */
    private static final class Moves {
        private final int[] cells = new int[MOST_MOVES * MOVE_WIDTH];
        private int size;

        void keep(int from, int to, int missed, int time, int greatest) {
            System.arraycopy(cells, 0, cells, MOVE_WIDTH, cells.length - MOVE_WIDTH);
            cells[MOVE_FROM] = from;
            cells[MOVE_TO] = to;
            cells[MOVE_MISSED] = missed;
            cells[MOVE_TIME] = time;
            cells[MOVE_GREATEST] = greatest;
            if (size < MOST_MOVES) {
                size++;
            }
        }

        int part(int index, int what) {
            if (index < 0 || !within(what, 0, MOVE_WIDTH - 1)) {
                return INVALID_ARGUMENT;
            }
            return index < size ? cells[index * MOVE_WIDTH + what] : NOT_FOUND;
        }

        int speed(int index) {
            if (index < 0) {
                return INVALID_ARGUMENT;
            }
            if (index >= size) {
                return NOT_FOUND;
            }
            int steps = Math.abs(part(index, MOVE_TO) - part(index, MOVE_FROM));
            int time = part(index, MOVE_TIME);
            if (steps == 0 || time <= 0) {
                return NOT_FOUND;
            }
            return bitsOf((float) steps / (float) time);
        }

        int empty() {
            int had = size;
            size = 0;
            return had;
        }

        void copyFrom(Moves other) {
            System.arraycopy(other.cells, 0, cells, 0, cells.length);
            size = other.size;
        }

        /**
         * The bits of a float above 0 and below 1, taken by arithmetic since the language of the
         * program has no call for them; doubling a float of this size loses nothing.
         */
        private static int bitsOf(float speed) {
            float scaled = speed;
            int exponent = 127;
            while (scaled < 1 && exponent > 1) {
                scaled = scaled * 2;
                exponent--;
            }
            return exponent * 8388608 + (int) ((scaled - 1) * 8388608);
        }
    }

    /** All that a change records: everything but the text and the history. */
    private static final class State {
        private final int[] settings = FIRST_SETTINGS.clone();
        private final Loads loads = new Loads();
        private final Moves moves = new Moves();
        private int low = -FIRST_LIMIT;
        private int high = FIRST_LIMIT;
        private int told;
        private int place;
        private int homeDifference;
        private boolean homed;
        private boolean closed;
        private int steps;
        private int missed;
        private int time;

        int putSetting(int what, int value) {
            if (!within(what, 0, SETTINGS - 1)
                    || !within(value, LEAST_SETTINGS[what], GREATEST_SETTINGS[what])) {
                return INVALID_ARGUMENT;
            }
            int before = settings[what];
            settings[what] = value;
            return before;
        }

        int putLimits(int lower, int upper) {
            if (!within(lower, -FARTHEST_LIMIT, FARTHEST_LIMIT)
                    || !within(upper, lower, FARTHEST_LIMIT)) {
                return INVALID_ARGUMENT;
            }
            low = lower;
            high = upper;
            return within(told, lower, upper) ? 1 : 0;
        }

        /** What holds a step back is the load where it begins, but the hard end where it goes. */
        void takeStep(int direction, int interval, int pull) {
            int next = place + direction;
            told += direction;
            if (isBeyondEnd(next) || loads.weightAt(place) > pull) {
                missed++;
            } else {
                place = next;
            }
            steps++;
            time = (time + interval) % TIME_ROUND;
            moveSwitch();
        }

        private void moveSwitch() {
            if (place <= settings[SWITCH_PLACE]) {
                closed = true;
            } else if (place > settings[SWITCH_PLACE] + settings[SWITCH_PLAY]) {
                closed = false;
            }
        }

        void becomeHomed() {
            told = 0;
            homed = true;
            homeDifference = -place;
        }

        void copyFrom(State other) {
            System.arraycopy(other.settings, 0, settings, 0, SETTINGS);
            loads.copyFrom(other.loads);
            moves.copyFrom(other.moves);
            low = other.low;
            high = other.high;
            told = other.told;
            place = other.place;
            homeDifference = other.homeDifference;
            homed = other.homed;
            closed = other.closed;
            steps = other.steps;
            missed = other.missed;
            time = other.time;
        }
    }

    /** The latest states; their rows are made once and used again. */
    private static final class History {
        private final State[] states = new State[MOST_STATES];
        private int size;

        History() {
            for (int i = 0; i < MOST_STATES; i++) {
                states[i] = new State();
            }
        }

        void keep(State state) {
            if (size >= MOST_STATES) {
                dropOldest();
            }
            State free = states[size];
            if (free != null) {
                free.copyFrom(state);
                size++;
            }
        }

        /** The oldest object goes to the end, where the next state is written over it. */
        private void dropOldest() {
            State oldest = states[0];
            for (int i = 1; i < MOST_STATES; i++) {
                states[i - 1] = states[i];
            }
            states[MOST_STATES - 1] = oldest;
            size = MOST_STATES - 1;
        }

        int restore(State state) {
            if (size <= 0) {
                return NOT_POSSIBLE;
            }
            State latest = states[size - 1];
            if (latest != null) {
                state.copyFrom(latest);
            }
            size--;
            return size;
        }
    }

    /** The row of intervals and what belongs to them; its rows are made once and used again. */
    private static final class Ramp {
        private final int[] intervals = new int[MOST_INDEX + 1];
        private final int[] rests = new int[MOST_INDEX + 1];
        private final int[] pulls = new int[MOST_INDEX + 1];
        private final int[] sums = new int[MOST_INDEX + 1];
        private int last;

        void build(State state) {
            int least = state.settings[LEAST_INTERVAL];
            int greatest = Math.min(state.settings[GREATEST_INDEX], MOST_INDEX);
            int pull = state.settings[PULL_AT_REST];
            int loss = state.settings[LOSS_OF_PULL];
            intervals[0] = state.settings[FIRST_INTERVAL];
            rests[0] = 0;
            pulls[0] = pull;
            sums[0] = intervals[0];
            last = 0;
            for (int n = 1; n <= greatest && intervals[n - 1] > least; n++) {
                int part = 4 * n + 1;
                int value = 2 * intervals[n - 1] + rests[n - 1];
                intervals[n] = Math.max(least, intervals[n - 1] - value / part);
                rests[n] = value % part;
                pulls[n] = Math.max(0, pull - n * loss / 16);
                sums[n] = sums[n - 1] + intervals[n];
                last = n;
            }
        }

        int interval(int n) {
            return within(n, 0, MOST_INDEX) ? intervals[n] : 0;
        }

        int rest(int n) {
            return within(n, 0, MOST_INDEX) ? rests[n] : 0;
        }

        int pull(int n) {
            return within(n, 0, MOST_INDEX) ? pulls[n] : 0;
        }

        int sum(int n) {
            return within(n, 0, MOST_INDEX) ? sums[n] : 0;
        }

        int indexOf(int step, int steps) {
            return Math.min(last, Math.min(step, steps - 1 - step));
        }

        int greatestIndex(int steps) {
            return steps <= 0 ? 0 : Math.min(last, (steps - 1) / 2);
        }

        /** A move goes down as it went up; with an odd number of steps one stands in the middle. */
        int time(int steps) {
            int half = steps / 2;
            int rising = Math.min(half, last);
            int up = sum(rising - 1) + (half - rising) * interval(last);
            int middle = steps % 2 == 0 ? 0 : interval(Math.min(half, last));
            return 2 * up + middle;
        }
    }

    /** Makes the steps of moves and of homing on a state that it is given. */
    private static final class Drive {
        private final Ramp ramp = new Ramp();

        Ramp rampOf(State state) {
            ramp.build(state);
            return ramp;
        }

        /** Answers 0 if a move to the place is possible, otherwise the error code. */
        private int refusal(State state, int place) {
            if (!within(place, -FARTHEST_PLACE, FARTHEST_PLACE)) {
                return INVALID_ARGUMENT;
            }
            return state.homed && !within(place, state.low, state.high) ? NOT_POSSIBLE : 0;
        }

        int goTo(State state, int target) {
            int refused = refusal(state, target);
            if (refused != 0) {
                return refused;
            }
            ramp.build(state);
            int from = state.told;
            int missedBefore = state.missed;
            int distance = Math.abs(target - from);
            int direction = directionTo(from, target);
            for (int i = 0; i < distance; i++) {
                int index = ramp.indexOf(i, distance);
                state.takeStep(direction, ramp.interval(index), ramp.pull(index));
            }
            int missed = state.missed - missedBefore;
            state.moves.keep(from, target, missed, ramp.time(distance),
                    ramp.greatestIndex(distance));
            return missed;
        }

        int goBy(State state, int steps) {
            if (!within(steps, -FARTHEST_PLACE, FARTHEST_PLACE)) {
                return INVALID_ARGUMENT;
            }
            int target = state.told + steps;
            if (!within(target, -FARTHEST_PLACE, FARTHEST_PLACE)) {
                return NOT_POSSIBLE;
            }
            return goTo(state, target);
        }

        /** As long as no step is missed, the true place is as far ahead as the steps are many. */
        int firstMissPlace(State state, int target) {
            int refused = refusal(state, target);
            if (refused != 0) {
                return refused;
            }
            ramp.build(state);
            int distance = Math.abs(target - state.told);
            int direction = directionTo(state.told, target);
            for (int i = 0; i < distance; i++) {
                int place = state.place + direction * i;
                int pull = ramp.pull(ramp.indexOf(i, distance));
                if (isBeyondEnd(place + direction) || state.loads.weightAt(place) > pull) {
                    return place;
                }
            }
            return NOT_FOUND;
        }

        /**
         * A lower index never pulls less, so one pass finds the greatest top that misses nothing.
         * Where the top as it is does so, the setting may stay as it is, however far above the top.
         */
        int greatestSafe(State state, int target) {
            int refused = refusal(state, target);
            if (refused != 0) {
                return refused;
            }
            ramp.build(state);
            int distance = Math.abs(target - state.told);
            int direction = directionTo(state.told, target);
            int allowed = ramp.last;
            for (int i = 0; i < distance; i++) {
                int place = state.place + direction * i;
                if (isBeyondEnd(place + direction)) {
                    return NOT_FOUND;
                }
                int weight = state.loads.weightAt(place);
                int index = Math.min(allowed, ramp.indexOf(i, distance));
                if (weight > ramp.pull(index)) {
                    allowed = greatestPulling(weight, index - 1);
                }
                if (allowed < 0) {
                    return NOT_FOUND;
                }
            }
            return allowed == ramp.last ? state.settings[GREATEST_INDEX] : allowed;
        }

        private int greatestPulling(int weight, int most) {
            int index = most;
            while (index >= 0 && weight > ramp.pull(index)) {
                index--;
            }
            return index;
        }

        /** Failing leaves the state somewhere on the way: it has to be one that is tried only. */
        int seekSwitch(State state) {
            ramp.build(state);
            int stepsBefore = state.steps;
            if (!state.closed && !runDown(state)) {
                return NOT_POSSIBLE;
            }
            if (!creep(state, UP, false) || !creep(state, DOWN, true)) {
                return NOT_POSSIBLE;
            }
            state.becomeHomed();
            return state.steps - stepsBefore;
        }

        private boolean runDown(State state) {
            int greatest = Math.min(state.settings[HOMING_INDEX], ramp.last);
            int index = 0;
            for (int i = 0; i < MOST_PART_STEPS && !state.closed; i++) {
                index = Math.min(i, greatest);
                state.takeStep(DOWN, ramp.interval(index), ramp.pull(index));
            }
            if (!state.closed) {
                return false;
            }
            for (int slower = index - 1; slower >= 0; slower--) {
                state.takeStep(DOWN, ramp.interval(slower), ramp.pull(slower));
            }
            return true;
        }

        private boolean creep(State state, int direction, boolean wanted) {
            int interval = ramp.interval(0);
            int pull = ramp.pull(0);
            for (int i = 0; i < MOST_PART_STEPS && state.closed != wanted; i++) {
                state.takeStep(direction, interval, pull);
            }
            return state.closed == wanted;
        }

        private static int directionTo(int from, int target) {
            return target < from ? DOWN : UP;
        }
    }

    /** The text, and the command that was read from it last. */
    private static final class Script {
        private final char[] signs = new char[MOST_SIGNS];
        private int length;
        private int position;
        private int kind;
        private int setting;
        private int number;

        int append(int character) {
            if (!within(character, 32, 126)) {
                return INVALID_ARGUMENT;
            }
            if (length >= MOST_SIGNS) {
                return LIMIT_REACHED;
            }
            signs[length] = (char) character;
            length++;
            return length;
        }

        int empty() {
            int had = length;
            length = 0;
            return had;
        }

        void startReading() {
            position = 0;
        }

        boolean isRead() {
            return position >= length;
        }

        /** Answers whether what comes next is a command of the form, its ";" included. */
        boolean readCommand() {
            kind = sign();
            position++;
            switch (kind) {
                case 'g':
                case 'r':
                    return readSigned() && skip(';');
                case 's':
                    return readSetting() && skip(',') && readSigned() && skip(';');
                case 'h':
                case 'z':
                    return skip(';');
                default:
                    return false;
            }
        }

        private boolean readSetting() {
            boolean read = readDigits();
            setting = number;
            return read;
        }

        private boolean readSigned() {
            boolean negative = skip('-');
            boolean read = readDigits();
            if (negative) {
                number = -number;
            }
            return read;
        }

        private boolean readDigits() {
            number = 0;
            int digits = 0;
            while (digits < MOST_DIGITS && within(sign(), '0', '9')) {
                number = 10 * number + (sign() - '0');
                position++;
                digits++;
            }
            return digits > 0;
        }

        private boolean skip(int wanted) {
            if (sign() != wanted) {
                return false;
            }
            position++;
            return true;
        }

        /** Behind the end stands a sign that cannot be typed, so that no form goes on there. */
        private int sign() {
            return position >= 0 && position < length && position < MOST_SIGNS
                    ? signs[position] : 0;
        }
    }

    /** Does the commands of a text on a state, and tells the fault if there is one. */
    private static final class Rehearsal {
        private int done;
        private int position;
        private int reason;
        private int cause;

        void run(Script script, State state, Drive drive) {
            done = 0;
            reason = NO_FAULT;
            script.startReading();
            while (done < MOST_SIGNS && reason == NO_FAULT && !script.isRead()) {
                position = script.position;
                if (script.readCommand()) {
                    note(answerTo(script, state, drive));
                } else {
                    reason = BAD_FORM;
                }
            }
        }

        private void note(int answer) {
            if (isError(answer)) {
                reason = REFUSED;
                cause = answer;
            } else {
                done++;
            }
        }

        private int answerTo(Script script, State state, Drive drive) {
            switch (script.kind) {
                case 'g':
                    return drive.goTo(state, script.number);
                case 'r':
                    return drive.goBy(state, script.number);
                case 's':
                    return state.putSetting(script.setting, script.number);
                case 'h':
                    return drive.seekSwitch(state);
                default:
                    return state.moves.empty();
            }
        }
    }
}
