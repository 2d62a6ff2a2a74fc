import java.util.ArrayList;
import java.util.List;
import java.util.regex.Matcher;
import java.util.regex.Pattern;

/**
 * The document once more, word by word and without any care for speed or room: what the program
 * answers is held against this. It shares no way of working with the program.
 */
final class AxisModel {
    static final int INVALID = -1000001;
    static final int IMPOSSIBLE = -1000002;
    static final int FULL = -1000003;
    static final int ABSENT = -1000004;

    private static final int[][] RANGES = {{100, 5000}, {20, 1000}, {0, 200}, {1, 300}, {0, 100},
        {-2900, 2900}, {0, 50}, {0, 200}};

    private static final class Kept {
        int from;
        int to;
        int missed;
        int time;
        int greatest;
    }

    private static final class Body {
        int[] settings = {1000, 200, 60, 100, 8, -400, 3, 20};
        List<int[]> loads = new ArrayList<>();
        List<Kept> moves = new ArrayList<>();
        int low = -1000;
        int high = 1000;
        int told;
        int real;
        int differenceAtHoming;
        boolean homed;
        boolean closed;
        long steps;
        long missed;
        long time;

        Body copy() {
            Body b = new Body();
            b.settings = settings.clone();
            b.loads = new ArrayList<>(loads);
            b.moves = new ArrayList<>(moves);
            b.low = low;
            b.high = high;
            b.told = told;
            b.real = real;
            b.differenceAtHoming = differenceAtHoming;
            b.homed = homed;
            b.closed = closed;
            b.steps = steps;
            b.missed = missed;
            b.time = time;
            return b;
        }
    }

    private Body body = new Body();
    private final List<Body> history = new ArrayList<>();
    private String text = "";

    // the ramp: rows of {interval, rest}

    private static List<int[]> rampOf(int[] settings) {
        List<int[]> row = new ArrayList<>();
        row.add(new int[] {settings[0], 0});
        if (settings[0] <= settings[1]) {
            return row;
        }
        int n = 0;
        while (n < settings[2]) {
            n++;
            int[] before = row.get(n - 1);
            int v = 2 * before[0] + before[1];
            int c = before[0] - v / (4 * n + 1);
            boolean ends = c <= settings[1];
            row.add(new int[] {ends ? settings[1] : c, v % (4 * n + 1)});
            if (ends) {
                break;
            }
        }
        return row;
    }

    private static int pull(int[] settings, int n) {
        int pull = settings[3] - n * settings[4] / 16;
        return pull < 0 ? 0 : pull;
    }

    private static int loadAt(Body b, int place) {
        int sum = 0;
        for (int[] l : b.loads) {
            if (l[0] <= place && place <= l[1]) {
                sum += l[2];
            }
        }
        return sum;
    }

    /** Answers true if the step is missed. */
    private static boolean step(Body b, int direction, int index, List<int[]> ramp) {
        b.told += direction;
        int next = b.real + direction;
        boolean misses = next < -3000 || next > 3000
            || loadAt(b, b.real) > pull(b.settings, index);
        if (misses) {
            b.missed++;
        } else {
            b.real = next;
        }
        b.steps++;
        b.time += ramp.get(index)[0];
        if (b.real <= b.settings[5]) {
            b.closed = true;
        }
        if (b.real > b.settings[5] + b.settings[6]) {
            b.closed = false;
        }
        return misses;
    }

    /** Makes the move; answers the true places at which steps were missed. */
    private static List<Integer> walk(Body b, int target) {
        List<int[]> ramp = rampOf(b.settings);
        List<Integer> missedAt = new ArrayList<>();
        Kept kept = new Kept();
        kept.from = b.told;
        kept.to = target;
        int d = target > b.told ? target - b.told : b.told - target;
        int direction = target > b.told ? 1 : -1;
        for (int i = 0; i < d; i++) {
            int index = i;
            if (d - 1 - i < index) {
                index = d - 1 - i;
            }
            if (ramp.size() - 1 < index) {
                index = ramp.size() - 1;
            }
            int at = b.real;
            if (step(b, direction, index, ramp)) {
                missedAt.add(at);
            }
            kept.time += ramp.get(index)[0];
            if (index > kept.greatest) {
                kept.greatest = index;
            }
        }
        kept.missed = missedAt.size();
        b.moves.add(0, kept);
        if (b.moves.size() > 5) {
            b.moves.remove(5);
        }
        return missedAt;
    }

    private static int refusal(Body b, int place) {
        if (place < -4000 || place > 4000) {
            return INVALID;
        }
        if (b.homed && (place < b.low || place > b.high)) {
            return IMPOSSIBLE;
        }
        return 0;
    }

    private static int move(Body b, int place) {
        int refused = refusal(b, place);
        return refused != 0 ? refused : walk(b, place).size();
    }

    private static int moveBy(Body b, int steps) {
        if (steps < -4000 || steps > 4000) {
            return INVALID;
        }
        int refused = refusal(b, b.told + steps);
        return refused != 0 ? IMPOSSIBLE : move(b, b.told + steps);
    }

    private static int home(Body b) {
        List<int[]> ramp = rampOf(b.settings);
        int most = ramp.size() - 1 < b.settings[7] ? ramp.size() - 1 : b.settings[7];
        int taken = 0;
        if (!b.closed) {
            int part = 0;
            int index = -1;
            while (!b.closed) {
                if (part == 4000) {
                    return IMPOSSIBLE;
                }
                if (index < most) {
                    index++;
                }
                step(b, -1, index, ramp);
                part++;
                taken++;
            }
            while (index > 0) {
                index--;
                step(b, -1, index, ramp);
                taken++;
            }
        }
        for (int direction = 1; direction >= -1; direction -= 2) {
            int part = 0;
            while (b.closed == (direction == 1)) {
                if (part == 4000) {
                    return IMPOSSIBLE;
                }
                step(b, direction, 0, ramp);
                part++;
                taken++;
            }
        }
        b.told = 0;
        b.homed = true;
        b.differenceAtHoming = b.told - b.real;
        return taken;
    }

    private static int set(Body b, int what, int value) {
        if (what < 0 || what > 7 || value < RANGES[what][0] || value > RANGES[what][1]) {
            return INVALID;
        }
        int was = b.settings[what];
        b.settings[what] = value;
        return was;
    }

    private static int limits(Body b, int low, int high) {
        if (low < -2000 || low > 2000 || high < low || high > 2000) {
            return INVALID;
        }
        b.low = low;
        b.high = high;
        return low <= b.told && b.told <= high ? 1 : 0;
    }

    private static int load(Body b, int from, int to, int weight) {
        if (from < -3000 || from > 3000 || to < from || to > 3000 || weight < 1 || weight > 300) {
            return INVALID;
        }
        if (b.loads.size() == 6) {
            return FULL;
        }
        b.loads.add(new int[] {from, to, weight});
        return b.loads.size() - 1;
    }

    private static int dropLoad(Body b, int index) {
        if (index < 0) {
            return INVALID;
        }
        return index >= b.loads.size() ? IMPOSSIBLE : b.loads.remove(index)[2];
    }

    private static int forget(Body b) {
        int had = b.moves.size();
        b.moves.clear();
        return had;
    }

    private static final Pattern COMMAND = Pattern.compile(
        "([gr])(-?[0-9]{1,4});|([hz]);|s([0-9]{1,4}),(-?[0-9]{1,4});");

    /** {position, reason, cause, commands done}; reason 0 if there is no fault. */
    private static int[] perform(Body b, String text) {
        int at = 0;
        int done = 0;
        Matcher m = COMMAND.matcher(text);
        while (at < text.length()) {
            m.region(at, text.length());
            if (!m.lookingAt()) {
                return new int[] {at, 1, ABSENT, done};
            }
            int answer;
            if (m.group(1) != null) {
                int number = Integer.parseInt(m.group(2));
                answer = m.group(1).equals("g") ? move(b, number) : moveBy(b, number);
            } else if (m.group(3) != null) {
                answer = m.group(3).equals("h") ? home(b) : forget(b);
            } else {
                answer = set(b, Integer.parseInt(m.group(4)), Integer.parseInt(m.group(5)));
            }
            if (answer <= INVALID) {
                return new int[] {at, 2, answer, done};
            }
            done++;
            at = m.end();
        }
        return new int[] {0, 0, ABSENT, done};
    }

    private int take(Body tried, int answer) {
        if (answer > INVALID) {
            history.add(body);
            if (history.size() > 4) {
                history.remove(0);
            }
            body = tried;
        }
        return answer;
    }

    // the calls of the face, by number; a, b and c are the arguments

    static final String[] NAMES = {"set", "limits", "load", "dropLoad", "loadOf", "loadAt", "ramp",
        "top", "timeOf", "move", "moveBy", "home", "forget", "axis", "moveOf", "count", "wouldMiss",
        "safe", "firstMiss", "speedBits", "undo", "type", "clearText", "fault", "play"};

    int call(int name, int a, int b, int c) {
        Body tried = body.copy();
        switch (NAMES[name]) {
            case "set": return take(tried, set(tried, a, b));
            case "limits": return take(tried, limits(tried, a, b));
            case "load": return take(tried, load(tried, a, b, c));
            case "dropLoad": return take(tried, dropLoad(tried, a));
            case "move": return take(tried, move(tried, a));
            case "moveBy": return take(tried, moveBy(tried, a));
            case "home": return take(tried, home(tried));
            case "forget": return take(tried, forget(tried));
            case "play": {
                int[] result = perform(tried, text);
                return take(tried, result[1] == 0 ? result[3] : IMPOSSIBLE);
            }
            case "fault": {
                if (a < 0 || a > 2) {
                    return INVALID;
                }
                int[] result = perform(tried, text);
                return result[1] == 0 ? ABSENT : result[a];
            }
            case "loadOf":
                if (a < 0 || b < 0 || b > 2) {
                    return INVALID;
                }
                return a < body.loads.size() ? body.loads.get(a)[b] : ABSENT;
            case "loadAt": return a < -3000 || a > 3000 ? INVALID : loadAt(body, a);
            case "ramp": return ramp(a, b);
            case "top": return rampOf(body.settings).size() - 1;
            case "timeOf": return timeOf(a);
            case "axis": return axis(a);
            case "moveOf": return moveOf(a, b);
            case "count": return count(a);
            case "wouldMiss": return move(tried, a);
            case "safe": return safe(a);
            case "firstMiss": {
                int refused = refusal(body, a);
                if (refused != 0) {
                    return refused;
                }
                List<Integer> missedAt = walk(tried, a);
                return missedAt.isEmpty() ? ABSENT : missedAt.get(0);
            }
            case "speedBits": return speedBits(a);
            case "undo":
                if (history.isEmpty()) {
                    return IMPOSSIBLE;
                }
                body = history.remove(history.size() - 1);
                return history.size();
            case "type":
                if (a < 32 || a > 126) {
                    return INVALID;
                }
                if (text.length() == 60) {
                    return FULL;
                }
                text += (char) a;
                return text.length();
            case "clearText": {
                int had = text.length();
                text = "";
                return had;
            }
            default: throw new IllegalStateException(NAMES[name]);
        }
    }

    private int ramp(int n, int what) {
        if (n < 0 || what < 0 || what > 3) {
            return INVALID;
        }
        List<int[]> ramp = rampOf(body.settings);
        if (n >= ramp.size()) {
            return ABSENT;
        }
        int sum = 0;
        for (int i = 0; i <= n; i++) {
            sum += ramp.get(i)[0];
        }
        int[] answers = {ramp.get(n)[0], ramp.get(n)[1], pull(body.settings, n), sum};
        return answers[what];
    }

    private int timeOf(int steps) {
        if (steps < 0 || steps > 6000) {
            return INVALID;
        }
        List<int[]> ramp = rampOf(body.settings);
        int time = 0;
        for (int i = 0; i < steps; i++) {
            time += ramp.get(Math.min(Math.min(i, steps - 1 - i), ramp.size() - 1))[0];
        }
        return time;
    }

    private int axis(int what) {
        if (what < 0 || what > 9) {
            return INVALID;
        }
        int slip = body.told - body.real - body.differenceAtHoming;
        long[] answers = {body.told, body.real, slip, body.homed ? 1 : 0, body.closed ? 1 : 0,
            body.steps, body.missed, body.time % 1000000, body.low, body.high};
        return (int) answers[what];
    }

    private int moveOf(int index, int what) {
        if (index < 0 || what < 0 || what > 4) {
            return INVALID;
        }
        if (index >= body.moves.size()) {
            return ABSENT;
        }
        Kept k = body.moves.get(index);
        int[] answers = {k.from, k.to, k.missed, k.time, k.greatest};
        return answers[what];
    }

    private int count(int what) {
        if (what >= 10 && what <= 17) {
            return body.settings[what - 10];
        }
        if (what < 0 || what > 3) {
            return INVALID;
        }
        int[] answers = {body.loads.size(), body.moves.size(), history.size(), text.length()};
        return answers[what];
    }

    private int safe(int place) {
        int refused = refusal(body, place);
        if (refused != 0) {
            return refused;
        }
        for (int value = body.settings[2]; value >= 0; value--) {
            Body tried = body.copy();
            tried.settings[2] = value;
            if (walk(tried, place).isEmpty()) {
                return value;
            }
        }
        return ABSENT;
    }

    private int speedBits(int index) {
        if (index < 0) {
            return INVALID;
        }
        if (index >= body.moves.size() || body.moves.get(index).time == 0) {
            return ABSENT;
        }
        Kept k = body.moves.get(index);
        return Float.floatToIntBits((float) Math.abs(k.to - k.from) / (float) k.time);
    }
}
