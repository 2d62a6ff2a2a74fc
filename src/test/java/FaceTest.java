import java.lang.reflect.Constructor;
import java.lang.reflect.Field;
import java.lang.reflect.Method;
import java.lang.reflect.Modifier;
import java.util.ArrayList;
import java.util.Collections;
import java.util.List;

/** The public face, the constants, and promise 1: a new object. */
public final class FaceTest {
    public static void main(String[] args) {
        Due due = new Due();
        members(due);
        constants(due);
        newObject(due);
        objectsAreApart(due);
        due.end();
    }

    private static void members(Due due) {
        List<String> shown = new ArrayList<>();
        for (Method m : StepAxis.class.getDeclaredMethods()) {
            if (!Modifier.isPrivate(m.getModifiers())) {
                shown.add(m.getName() + "/" + m.getParameterCount());
                due.holds(m + " is public, of the object and answers int",
                    m.getModifiers() == Modifier.PUBLIC && m.getReturnType() == int.class);
            }
        }
        Collections.sort(shown);
        due.holds("the methods are those of the document: " + shown, shown.toString().equals(
            "[axis/1, clearText/0, count/1, dropLoad/1, fault/1, firstMiss/1, forget/0, home/0, "
            + "limits/2, load/3, loadAt/1, loadOf/2, move/1, moveBy/1, moveOf/2, play/0, ramp/2, "
            + "safe/1, set/2, speedBits/1, timeOf/1, top/0, type/1, undo/0, wouldMiss/1]"));
        int fields = 0;
        for (Field f : StepAxis.class.getDeclaredFields()) {
            fields += Modifier.isPrivate(f.getModifiers()) ? 0 : 1;
        }
        due.is("fields that are not private", fields, 4);
        Constructor<?>[] constructors = StepAxis.class.getDeclaredConstructors();
        due.is("constructors", constructors.length, 1);
        due.holds("the constructor is public and without parameters",
            constructors[0].getModifiers() == Modifier.PUBLIC
            && constructors[0].getParameterCount() == 0);
        due.holds("the class is public and final",
            StepAxis.class.getModifiers() == (Modifier.PUBLIC | Modifier.FINAL));
    }

    private static void constants(Due due) {
        due.is("INVALID_ARGUMENT", StepAxis.INVALID_ARGUMENT, -1000001);
        due.is("NOT_POSSIBLE", StepAxis.NOT_POSSIBLE, -1000002);
        due.is("LIMIT_REACHED", StepAxis.LIMIT_REACHED, -1000003);
        due.is("NOT_FOUND", StepAxis.NOT_FOUND, -1000004);
    }

    private static void newObject(Due due) {
        StepAxis x = new StepAxis();
        int[] axis = {0, 0, 0, 0, 0, 0, 0, 0, -1000, 1000};
        for (int what = 0; what < axis.length; what++) {
            due.is("new: axis(" + what + ")", x.axis(what), axis[what]);
        }
        int[] settings = {1000, 200, 60, 100, 8, -400, 3, 20};
        for (int what = 0; what < settings.length; what++) {
            due.is("new: count(1" + what + ")", x.count(10 + what), settings[what]);
        }
        for (int what = 0; what < 4; what++) {
            due.is("new: count(" + what + ")", x.count(what), 0);
        }
        due.is("new: loadOf(0, 0)", x.loadOf(0, 0), StepAxis.NOT_FOUND);
        due.is("new: moveOf(0, 0)", x.moveOf(0, 0), StepAxis.NOT_FOUND);
        due.is("new: speedBits(0)", x.speedBits(0), StepAxis.NOT_FOUND);
        due.is("new: loadAt(0)", x.loadAt(0), 0);
        due.is("new: fault(0)", x.fault(0), StepAxis.NOT_FOUND);
        due.is("new: undo()", x.undo(), StepAxis.NOT_POSSIBLE);
        due.is("new: clearText()", x.clearText(), 0);
        due.is("new: top()", x.top(), 14);
    }

    private static void objectsAreApart(Due due) {
        StepAxis x = new StepAxis();
        StepAxis y = new StepAxis();
        String before = Due.picture(y);
        x.set(0, 2000);
        x.load(1, 2, 3);
        x.move(5);
        x.type('z');
        due.holds("one object leaves the other one alone", Due.picture(y).equals(before)
            && y.count(2) == 0 && y.count(3) == 0 && y.ramp(0, 0) == 1000);
    }
}
