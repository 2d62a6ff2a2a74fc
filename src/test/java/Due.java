/** Counts the answers of a test and prints those that are not the ones that are due. */
final class Due {
    private int asked;
    private int wrong;

    void is(String call, long got, long want) {
        asked++;
        if (got != want) {
            wrong++;
            System.out.println("  " + call + " answered " + got + ", due is " + want);
        }
    }

    void holds(String claim, boolean truth) {
        asked++;
        if (!truth) {
            wrong++;
            System.out.println("  does not hold: " + claim);
        }
    }

    void end() {
        System.out.println("  " + asked + " answers, " + wrong + " wrong");
        if (wrong != 0 || asked == 0) {
            System.exit(1);
        }
    }

    static void type(StepAxis x, String text) {
        for (int i = 0; i < text.length(); i++) {
            x.type(text.charAt(i));
        }
    }

    static StepAxis withText(String text) {
        StepAxis x = new StepAxis();
        type(x, text);
        return x;
    }

    /** All that the calls without effect tell of an object, but the history and the text. */
    static String picture(StepAxis x) {
        StringBuilder told = new StringBuilder();
        for (int what = 0; what < 10; what++) {
            told.append(x.axis(what)).append(' ');
        }
        told.append("| ");
        for (int what = 10; what < 18; what++) {
            told.append(x.count(what)).append(' ');
        }
        told.append("| ");
        for (int index = 0; index < x.count(0); index++) {
            for (int what = 0; what < 3; what++) {
                told.append(x.loadOf(index, what)).append(' ');
            }
        }
        told.append("| ");
        for (int index = 0; index < x.count(1); index++) {
            for (int what = 0; what < 5; what++) {
                told.append(x.moveOf(index, what)).append(' ');
            }
        }
        return told.toString();
    }
}
