/** Promises 23 to 26: type, clearText, fault and play. */
public final class TextTest {
    public static void main(String[] args) {
        Due due = new Due();
        typing(due);
        forms(due);
        causes(due);
        faultsAsTheyCome(due);
        wrongFault(due);
        playing(due);
        oneChange(due);
        failedPlay(due);
        longTexts(due);
        signsBehindTheEnd(due);
        cutAtTheEnd(due);
        numbersAtTheirEnds(due);
        faultsOfTheHomedAxis(due);
        everyCharacter(due);
        due.end();
    }

    private static void typing(Due due) {
        StepAxis x = new StepAxis();
        int[] wrong = {31, 127, -1, 0, 128, 65536 + 'g', Integer.MIN_VALUE, Integer.MAX_VALUE};
        for (int character : wrong) {
            due.is("type(" + character + ")", x.type(character), StepAxis.INVALID_ARGUMENT);
        }
        due.is("empty", x.count(3), 0);
        for (int length = 1; length <= 60; length++) {
            due.is("type", x.type(length % 2 == 0 ? 32 : 126), length);
        }
        due.is("a 61st one", x.type('z'), StepAxis.LIMIT_REACHED);
        due.is("a 61st one, invalid", x.type(127), StepAxis.INVALID_ARGUMENT);
        due.is("no change", x.count(2), 0);
        due.is("clearText()", x.clearText(), 60);
        due.is("clearText()", x.clearText(), 0);
        due.is("room again", x.type('z'), 1);
        due.is("clearText()", x.clearText(), 1);
    }

    private static void fault(Due due, String text, int position, int reason, int cause) {
        StepAxis x = Due.withText(text);
        String before = Due.picture(x);
        due.is("position in " + text, x.fault(0), position);
        due.is("reason in " + text, x.fault(1), reason);
        due.is("cause in " + text, x.fault(2), cause);
        due.is("play() of " + text, x.play(), StepAxis.NOT_POSSIBLE);
        due.holds("nothing changed by " + text, Due.picture(x).equals(before) && x.count(2) == 0
            && x.count(3) == text.length());
    }

    private static void fine(Due due, String text, int commands) {
        StepAxis x = Due.withText(text);
        String before = Due.picture(x);
        for (int what = 0; what < 3; what++) {
            due.is("fault(" + what + ") of " + text, x.fault(what), StepAxis.NOT_FOUND);
        }
        due.holds("asking changes nothing", Due.picture(x).equals(before) && x.count(2) == 0);
        due.is("play() of " + text, x.play(), commands);
        due.is("the text stays", x.count(3), text.length());
        due.is("one change", x.count(2), 1);
        due.is("undo()", x.undo(), 0);
        due.holds("as before", Due.picture(x).equals(before));
    }

    private static void forms(Due due) {
        String[] wrong = {"g", "g5", "g;", "g-;", "g--5;", "g5-;", "g+5;", "g 5;", " g5;", "g5 ;",
            "G5;", "g12345;", "g00001;", "g-12345;", "g5,;", "g5,5;", "r", "r;", "r-;", "r5",
            "r00000;", "h", "h5;", "h ;", "H;", "z", "z1;", "-z;", "s;", "s1;", "s1,;", "s,5;",
            "s,;", "s-1,5;", "s1,-;", "s1,5", "s1;5;", "s00001,50;", "s1,00050;", "s1,50,;",
            "s1 ,50;", "s1,--5;", ";", ";;", "5;", "-", "x1;", "~", "g1/;", "g1:;", "gg1;", "hh;",
            "g;5;", "s-0,100;"};
        for (String text : wrong) {
            fault(due, text, 0, 1, StepAxis.NOT_FOUND);
        }
        String[] right = {"g5;", "g-5;", "g0;", "g-0;", "g0000;", "g-0007;", "g4000;", "g-4000;",
            "r5;", "r-5;", "r0;", "r-0000;", "r4000;", "r-4000;", "h;", "z;", "s0,100;",
            "s0000,0100;", "s5,-2900;", "s0005,-0001;", "s2,0;", "s2,-0;", "s7,200;"};
        for (String text : right) {
            fine(due, text, 1);
        }
        fine(due, "", 0);
        fine(due, "z;z;h;g5;r-5;s2,0;s5,-1;h;", 8);
    }

    private static void causes(Due due) {
        String[] invalid = {"g4001;", "g-4001;", "g9999;", "r4001;", "r-9999;", "s8,0;",
            "s9999,0;", "s0,99;", "s0,5001;", "s2,-1;", "s5,-2901;", "s5,2901;", "s3,0;",
            "s0010,100;"};
        for (String text : invalid) {
            fault(due, text, 0, 2, StepAxis.INVALID_ARGUMENT);
            fault(due, "z;" + text, 2, 2, StepAxis.INVALID_ARGUMENT);
        }
        fault(due, "g4000;r1;", 6, 2, StepAxis.NOT_POSSIBLE);
        fault(due, "r-4000;r-1;", 7, 2, StepAxis.NOT_POSSIBLE);
        fault(due, "h;g1001;", 2, 2, StepAxis.NOT_POSSIBLE);
        fault(due, "h;r-1001;", 2, 2, StepAxis.NOT_POSSIBLE);
        fault(due, "s5,-2900;g1200;h;", 15, 2, StepAxis.NOT_POSSIBLE);
    }

    private static void faultsAsTheyCome(Due due) {
        fault(due, "h;g5", 2, 1, StepAxis.NOT_FOUND);
        fault(due, "h;;g9999;", 2, 1, StepAxis.NOT_FOUND);
        fault(due, "g9999;;", 0, 2, StepAxis.INVALID_ARGUMENT);
        fault(due, "z;g9999;x", 2, 2, StepAxis.INVALID_ARGUMENT);
        fault(due, "g1;r1;s9;g9999;", 6, 1, StepAxis.NOT_FOUND);
        fault(due, "g1;g2;g3;g4;g5;g6;g7;g8;g9;g9999;", 27, 2, StepAxis.INVALID_ARGUMENT);
        fault(due, "z; z;", 2, 1, StepAxis.NOT_FOUND);
        StepAxis x = Due.withText("g10;r10;");
        due.is("fault(0)", x.fault(0), StepAxis.NOT_FOUND);
        x.set(5, 0);
        x.home();
        x.limits(0, 15);
        due.is("the fault follows the state: position", x.fault(0), 4);
        due.is("cause", x.fault(2), StepAxis.NOT_POSSIBLE);
        x.limits(0, 9);
        due.is("position", x.fault(0), 0);
        x.limits(0, 20);
        due.is("none", x.fault(0), StepAxis.NOT_FOUND);
        x.type('z');
        due.is("the fault follows the text: position", x.fault(0), 8);
        x.type(';');
        due.is("none", x.fault(0), StepAxis.NOT_FOUND);
    }

    private static void wrongFault(Due due) {
        StepAxis x = new StepAxis();
        int[] wrong = {-1, 3, Integer.MIN_VALUE, Integer.MAX_VALUE};
        for (int what : wrong) {
            due.is("fault(" + what + ") of no text", x.fault(what), StepAxis.INVALID_ARGUMENT);
        }
        x.type('?');
        for (int what : wrong) {
            due.is("fault(" + what + ")", x.fault(what), StepAxis.INVALID_ARGUMENT);
        }
    }

    private static void playing(Due due) {
        String[] texts = {"g20;r-5;h;s2,0;", "s5,-7;h;g9;r-0003;r1;", "g7;z;g8;", "s4,100;g90;r-3;",
            "g5;r-5;g-5;h;z;r1;r0002;", "s0,100;s1,1000;g9;s2,3;g-9;s1,20;g9;"};
        for (String text : texts) {
            StepAxis x = Due.withText(text);
            x.load(30, 35, 97);
            StepAxis y = new StepAxis();
            y.load(30, 35, 97);
            int commands = text.length() - text.replace(";", "").length();
            due.is("play() of " + text, x.play(), commands);
            byHand(y, text);
            due.holds(text + " as by hand", Due.picture(x).equals(Due.picture(y)));
            due.is("play() once more", x.play(), commands);
            byHand(y, text);
            due.holds(text + " twice as by hand", Due.picture(x).equals(Due.picture(y)));
        }
    }

    private static void byHand(StepAxis y, String text) {
        for (String command : text.split(";")) {
            String rest = command.substring(1);
            switch (command.charAt(0)) {
                case 'g':
                    y.move(Integer.parseInt(rest));
                    break;
                case 'r':
                    y.moveBy(Integer.parseInt(rest));
                    break;
                case 'h':
                    y.home();
                    break;
                case 's':
                    y.set(Integer.parseInt(rest.split(",")[0]),
                        Integer.parseInt(rest.split(",")[1]));
                    break;
                default:
                    y.forget();
            }
        }
    }

    private static void oneChange(Due due) {
        StepAxis x = new StepAxis();
        due.is("play() of no text", x.play(), 0);
        due.is("is a change", x.count(2), 1);
        due.is("undo()", x.undo(), 0);
        Due.type(x, "g1;g2;g3;g4;g5;g6;");
        x.move(50);
        due.is("play()", x.play(), 6);
        due.is("two states", x.count(2), 2);
        due.is("told", x.axis(0), 6);
        due.is("undo()", x.undo(), 1);
        due.is("told", x.axis(0), 50);
        due.is("moves", x.count(1), 1);
        for (int i = 0; i < 6; i++) {
            x.play();
        }
        due.is("four states", x.count(2), 4);
    }

    private static void failedPlay(Due due) {
        StepAxis x = Due.withText("g5;r9;s2,0;z;g9999;");
        x.move(2);
        String before = Due.picture(x);
        due.is("play()", x.play(), StepAxis.NOT_POSSIBLE);
        due.holds("those ahead of the fault are not done either", Due.picture(x).equals(before));
        due.is("one state", x.count(2), 1);
        due.is("the text stays", x.count(3), 19);
    }

    /** What was typed before the text was emptied is no part of a shorter one. */
    private static void signsBehindTheEnd(Due due) {
        String[][] texts = {{"g5;", "g5"}, {"g55;", "g5"}, {"z;z;", "z"}, {"s1,50;", "s1,50"},
            {"s1,50;", "s1,"}, {"s1,50;", "s1"}, {"r-5;", "r-"}, {"h;", "h"}, {"z;h;", "z;h"}};
        for (String[] t : texts) {
            StepAxis x = Due.withText(t[0]);
            due.is("clearText()", x.clearText(), t[0].length());
            due.is("fault(0) of an emptied text", x.fault(0), StepAxis.NOT_FOUND);
            due.is("fault(1) of it", x.fault(1), StepAxis.NOT_FOUND);
            due.is("fault(2) of it", x.fault(2), StepAxis.NOT_FOUND);
            Due.type(x, t[1]);
            due.is("length", x.count(3), t[1].length());
            due.is("position in " + t[1], x.fault(0), t[1].lastIndexOf(';') + 1);
            due.is("reason in " + t[1], x.fault(1), 1);
            due.is("cause in " + t[1], x.fault(2), StepAxis.NOT_FOUND);
            due.is("play()", x.play(), StepAxis.NOT_POSSIBLE);
            x.clearText();
            due.is("play() of an emptied text", x.play(), 0);
        }
    }

    /** 59 and 60 characters, and commands that the 60th one ends or cuts. */
    private static void cutAtTheEnd(Due due) {
        StringBuilder ahead = new StringBuilder();
        for (int i = 0; i < 25; i++) {
            ahead.append("z;");
        }
        String start = ahead.toString();
        fine(due, start + "s5,-2900;", 26);
        fine(due, start + "s05,-2900;", 26);
        fine(due, start + "r-1234;g0;", 27);
        fine(due, start + "z;g-4000;", 27);
        fault(due, start + "r-1234;g01", 57, 1, StepAxis.NOT_FOUND);
        fault(due, start + "z;z;z;z;hh", 58, 1, StepAxis.NOT_FOUND);
        fault(due, start + "z;z;z;z;z", 58, 1, StepAxis.NOT_FOUND);
        fault(due, start + "z;z;z;z;;;", 58, 1, StepAxis.NOT_FOUND);
        fault(due, start + "z;z;z;g-12", 56, 1, StepAxis.NOT_FOUND);
        fault(due, start + "s0005,2901", 50, 1, StepAxis.NOT_FOUND);
        fault(due, start + "s5,-2901;", 50, 2, StepAxis.INVALID_ARGUMENT);
        fault(due, start + "z;r-4001;z", 52, 2, StepAxis.INVALID_ARGUMENT);
        StepAxis x = Due.withText(start + "z;z;z;z;zz");
        due.is("a 61st character", x.type(';'), StepAxis.LIMIT_REACHED);
        due.is("mends nothing", x.fault(0), 58);
    }

    /** Each range that a command meets, at its ends and one beyond each. */
    private static void numbersAtTheirEnds(Due due) {
        int[] least = {100, 20, 0, 1, 0, -2900, 0, 0};
        int[] greatest = {5000, 1000, 200, 300, 100, 2900, 50, 200};
        for (int what = 0; what < 8; what++) {
            fine(due, "s" + what + "," + least[what] + ";", 1);
            fine(due, "s" + what + "," + greatest[what] + ";", 1);
            fault(due, "s" + what + "," + (least[what] - 1) + ";", 0, 2,
                StepAxis.INVALID_ARGUMENT);
            fault(due, "s" + what + "," + (greatest[what] + 1) + ";", 0, 2,
                StepAxis.INVALID_ARGUMENT);
            fault(due, "s" + what + ",9999;", 0, 2, StepAxis.INVALID_ARGUMENT);
            fault(due, "s" + what + ",-9999;", 0, 2, StepAxis.INVALID_ARGUMENT);
            StepAxis x = Due.withText("s000" + what + "," + greatest[what] + ";");
            x.play();
            due.is("set by a text", x.count(10 + what), greatest[what]);
        }
        fault(due, "g4000;r0;r1;", 9, 2, StepAxis.NOT_POSSIBLE);
        fault(due, "g-4000;r-0;r-1;", 11, 2, StepAxis.NOT_POSSIBLE);
        fault(due, "g4000;r4001;", 6, 2, StepAxis.INVALID_ARGUMENT);
        fault(due, "g4000;r4000;", 6, 2, StepAxis.NOT_POSSIBLE);
        fine(due, "g4000;r-4000;r-4000;r4000;", 4);
        StepAxis x = Due.withText("g12;r-0;g-0;r0012;g-0012;r1;");
        due.is("play()", x.play(), 6);
        int[] places = {-11, -12, 12, 0, 12};
        for (int index = 0; index < 5; index++) {
            due.is("the place of move " + index, x.moveOf(index, 1), places[index]);
        }
    }

    /** The limits bind a text's moves once a command ahead of them has homed the axis. */
    private static void faultsOfTheHomedAxis(Due due) {
        StepAxis x = new StepAxis();
        x.set(5, 0);
        x.limits(-7, 9);
        String[] texts = {"g10;h;g9;", "h;g9;r0;g-7;", "h;g10;", "h;g-8;", "h;g9;r1;", "h;r-7;r-1;",
            "h;g4000;", "h;g4001;", "h;r4001;", "g-8;r-1;h;z;r10;"};
        int[] positions = {-1, -1, 2, 2, 5, 6, 2, 2, 2, 12};
        for (int i = 0; i < texts.length; i++) {
            Due.type(x, texts[i]);
            boolean fine = positions[i] < 0;
            boolean far = texts[i].contains("4001");
            due.is("position in " + texts[i], x.fault(0),
                fine ? StepAxis.NOT_FOUND : positions[i]);
            due.is("reason in " + texts[i], x.fault(1), fine ? StepAxis.NOT_FOUND : 2);
            due.is("cause in " + texts[i], x.fault(2), fine ? StepAxis.NOT_FOUND
                : far ? StepAxis.INVALID_ARGUMENT : StepAxis.NOT_POSSIBLE);
            x.clearText();
        }
        x.limits(1, 9);
        Due.type(x, "h;r0;");
        due.is("a move of no steps, beyond the limits", x.fault(0), 2);
        due.is("its cause", x.fault(2), StepAxis.NOT_POSSIBLE);
    }

    /** No other character is a command, stands in a number, or stands behind one. */
    private static void everyCharacter(Due due) {
        for (int character = 32; character <= 126; character++) {
            char c = (char) character;
            StepAxis x = new StepAxis();
            due.is("type(" + character + ")", x.type(character), 1);
            x.type(';');
            due.is("as a command: reason", x.fault(1), c == 'h' || c == 'z' ? StepAxis.NOT_FOUND : 1);
            boolean digit = c >= '0' && c <= '9';
            due.is("in a number: reason", Due.withText("g1" + c + "1;").fault(1),
                digit ? StepAxis.NOT_FOUND : 1);
            due.is("in a number: position", Due.withText("g1" + c + "1;").fault(0),
                digit ? StepAxis.NOT_FOUND : c == ';' ? 3 : 0);
            due.is("ahead of a number: reason", Due.withText("r" + c + "1;").fault(1),
                digit || c == '-' ? StepAxis.NOT_FOUND : 1);
            due.is("between two numbers: reason", Due.withText("s1" + c + "50;").fault(1),
                c == ',' ? StepAxis.NOT_FOUND : 1);
            due.is("ahead of a value: reason", Due.withText("s5," + c + "1;").fault(1),
                digit || c == '-' ? StepAxis.NOT_FOUND : 1);
            due.is("at the end: reason", Due.withText("z" + c).fault(1),
                c == ';' ? StepAxis.NOT_FOUND : 1);
        }
    }

    private static void longTexts(Due due) {
        StringBuilder text = new StringBuilder();
        for (int i = 0; i < 30; i++) {
            text.append("z;");
        }
        fine(due, text.toString(), 30);
        StepAxis x = Due.withText("g-4000;g4000;g-4000;g4000;g-4000;g4000;g-4000;g4000;g-4000;");
        due.is("fault(0)", x.fault(0), StepAxis.NOT_FOUND);
        due.is("play()", x.play(), 9);
        due.is("steps", x.axis(5), 4000 + 8 * 8000);
        x = Due.withText(text.toString().replace('z', 'h'));
        due.is("thirty homings", x.play(), 30);
        due.is("steps", x.axis(5), 436 + 29 * 8);
    }
}
