import java.util.Random;

/** Runs of 512 calls drawn by a fixed seed, on the program and on the model; every answer counts. */
public final class ModelTest {
    private static final int RUNS = 400;
    private static final int CALLS = 512;
    private static final int CLEAR_TEXT = 22;
    private static final int[] EDGES = {Integer.MIN_VALUE, Integer.MAX_VALUE, -1, 0, 1, 2, 3, 4, 5, 6,
        7, 8, 9, 10, 17, 18, 20, 31, 32, 50, 51, 60, 100, 126, 127, 200, 201, 300, 301, 400, 999, 1000,
        1001, 2000, 2001, 2900, 2901, 3000, 3001, 4000, 4001, 5000, 5001, 6000, 6001, 1000000};

    private final Random random;
    private final int reach;
    private final boolean wild;
    private boolean faulty;

    private ModelTest(int seed) {
        random = new Random(seed);
        int[] reaches = {8, 30, 120, 600, 4000};
        reach = reaches[seed % reaches.length];
        wild = seed % 7 == 0;
    }

    public static void main(String[] args) {
        Due due = new Due();
        int[] asked = new int[AxisModel.NAMES.length];
        int[] refused = new int[AxisModel.NAMES.length];
        for (int run = 0; run < RUNS; run++) {
            new ModelTest(run).run(due, run, asked, refused);
        }
        for (int name = 0; name < asked.length; name++) {
            System.out.println("  " + AxisModel.NAMES[name] + ": " + asked[name] + " calls, "
                + refused[name] + " errors");
        }
        due.end();
    }

    private void run(Due due, int run, int[] asked, int[] refused) {
        StepAxis x = new StepAxis();
        AxisModel model = new AxisModel();
        StringBuilder typed = new StringBuilder();
        for (int n = 0; n < CALLS; n++) {
            int name = faulty && random.nextInt(4) == 0 ? CLEAR_TEXT : drawName();
            int[] a = {0, 0, 0};
            if (AxisModel.NAMES[name].equals("type")) {
                if (typed.length() == 0) {
                    typed.append(drawCommand());
                }
                a[0] = random.nextInt(80) == 0 ? edge() : typed.charAt(0);
                typed.deleteCharAt(0);
            } else {
                drawArguments(name, a);
            }
            int got = Face.call(x, name, a[0], a[1], a[2]);
            int want = model.call(name, a[0], a[1], a[2]);
            due.is("run " + run + ", call " + n + ": " + AxisModel.NAMES[name] + "(" + a[0] + ", "
                + a[1] + ", " + a[2] + ")", got, want);
            noteText(name, got, typed);
            asked[name]++;
            refused[name] += got <= -1000001 ? 1 : 0;
            if (got != want) {
                return;
            }
        }
    }

    /** A text with a fault that typing on does not mend is emptied soon: many are to be played. */
    private void noteText(int name, int got, StringBuilder typed) {
        if (name == CLEAR_TEXT) {
            faulty = false;
            typed.setLength(0);
        } else if (AxisModel.NAMES[name].equals("play")) {
            faulty = got < 0 && typed.length() == 0;
        }
    }

    private int drawName() {
        String[] often = {"type", "type", "type", "type", "type", "type", "type", "type", "type",
            "type", "move", "move", "moveBy", "home", "axis", "axis", "axis", "load", "set", "moveOf",
            "wouldMiss", "firstMiss", "safe", "play", "fault", "undo", "speedBits"};
        if (random.nextInt(3) > 0) {
            String wanted = often[random.nextInt(often.length)];
            for (int name = 0; name < AxisModel.NAMES.length; name++) {
                if (AxisModel.NAMES[name].equals(wanted)) {
                    return name;
                }
            }
        }
        return random.nextInt(AxisModel.NAMES.length);
    }

    private int edge() {
        int value = EDGES[random.nextInt(EDGES.length)];
        return random.nextBoolean() ? value : -value;
    }

    private int near() {
        return random.nextInt(2 * reach + 1) - reach;
    }

    private int value(int setting) {
        switch (setting) {
            case 0: return 100 + random.nextInt(random.nextBoolean() ? 4901 : 300);
            case 1: return 20 + random.nextInt(random.nextBoolean() ? 981 : 200);
            case 2: return random.nextInt(random.nextBoolean() ? 201 : 12);
            case 3: return 1 + random.nextInt(300);
            case 4: return random.nextInt(101);
            case 5: return Math.max(-2900, Math.min(2900, near()));
            case 6: return random.nextInt(51);
            default: return random.nextInt(random.nextBoolean() ? 201 : 12);
        }
    }

    private void drawArguments(int name, int[] a) {
        if (random.nextInt(wild ? 4 : 25) == 0) {
            for (int i = 0; i < 3; i++) {
                a[i] = edge();
            }
            return;
        }
        switch (AxisModel.NAMES[name]) {
            case "set":
                a[0] = random.nextInt(8);
                a[1] = value(a[0]);
                break;
            case "limits":
                a[0] = Math.max(-2000, Math.min(2000, near()));
                a[1] = Math.max(-2000, Math.min(2000, a[0] + random.nextInt(2 * reach)));
                break;
            case "load":
                a[0] = Math.max(-3000, Math.min(3000, near()));
                a[1] = Math.max(-3000, Math.min(3000, a[0] + random.nextInt(reach)));
                a[2] = 1 + random.nextInt(random.nextBoolean() ? 300 : 100);
                break;
            case "ramp":
                a[0] = random.nextInt(40);
                a[1] = random.nextInt(4);
                break;
            case "timeOf":
                a[0] = random.nextInt(random.nextBoolean() ? 6001 : 60);
                break;
            case "loadOf":
            case "moveOf":
            case "dropLoad":
            case "speedBits":
                a[0] = random.nextInt(6);
                a[1] = random.nextInt(AxisModel.NAMES[name].equals("loadOf") ? 3 : 5);
                break;
            case "axis":
                a[0] = random.nextInt(10);
                break;
            case "count":
                a[0] = random.nextInt(18);
                break;
            case "fault":
                a[0] = random.nextInt(3);
                break;
            default:
                a[0] = near();
        }
    }

    private String drawCommand() {
        String[] odd = {"g;", "r--1;", "x", ";", "h", "s1;", "s-1,20;", "g12345;", "r1", "s1,;", " ",
            "g-;", "z", "h;;", "s9,1;", "s0,1;", "g4001;", "r-4001;", "g-0000;", "s00002,3;",
            "s0002,0007;"};
        if (random.nextInt(40) == 0) {
            return odd[random.nextInt(odd.length)];
        }
        switch (random.nextInt(7)) {
            case 0:
            case 1:
                return "g" + near() + ";";
            case 2:
            case 3:
                return "r" + near() / 2 + ";";
            case 4:
                return random.nextInt(3) == 0 ? "h;" : "r" + random.nextInt(9) + ";";
            case 5: {
                int setting = random.nextInt(8);
                return "s" + setting + "," + value(setting) + ";";
            }
            default:
                return "z;";
        }
    }
}
