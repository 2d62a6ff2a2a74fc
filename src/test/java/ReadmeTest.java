import java.io.IOException;
import java.lang.reflect.Method;
import java.nio.file.Files;
import java.nio.file.Paths;
import java.util.List;
import java.util.Set;
import java.util.TreeSet;
import java.util.regex.Matcher;
import java.util.regex.Pattern;

/** README.md: each call of its examples answers what stands behind it, and it tells of each call. */
public final class ReadmeTest {
    private static final String MADE = "StepAxis axis = new StepAxis();";
    private static final Pattern CALL
        = Pattern.compile("axis\\.(\\w+)\\(([^)]*)\\); +// (-?\\d+|[A-Z_]+)\\b.*");

    public static void main(String[] args) throws ReflectiveOperationException, IOException {
        Due due = new Due();
        List<String> lines = Files.readAllLines(Paths.get("README.md"));
        examples(due, lines);
        allCalls(due, String.join("\n", lines));
        due.end();
    }

    private static void examples(Due due, List<String> lines) throws ReflectiveOperationException {
        StepAxis x = null;
        int asked = 0;
        boolean inside = false;
        for (String line : lines) {
            if (line.startsWith("```")) {
                inside = line.equals("```java");
            } else if (inside && line.equals(MADE)) {
                x = new StepAxis();
            } else if (inside) {
                Matcher call = CALL.matcher(line);
                boolean read = x != null && call.matches();
                due.holds("this line is a call and its answer: " + line, read);
                if (read) {
                    due.is(line, ask(x, call.group(1), call.group(2)), answer(call.group(3)));
                    asked++;
                }
            }
        }
        due.holds("examples are seen: " + asked, asked > 20);
    }

    private static int ask(StepAxis x, String name, String list) throws ReflectiveOperationException {
        String[] words = list.isEmpty() ? new String[0] : list.split(", ");
        Class<?>[] types = new Class<?>[words.length];
        Object[] values = new Object[words.length];
        for (int i = 0; i < words.length; i++) {
            types[i] = int.class;
            values[i] = words[i].startsWith("'") ? words[i].charAt(1) : Integer.parseInt(words[i]);
        }
        return (int) StepAxis.class.getMethod(name, types).invoke(x, values);
    }

    private static int answer(String word) throws ReflectiveOperationException {
        return Character.isLetter(word.charAt(0)) ? StepAxis.class.getField(word).getInt(null)
            : Integer.parseInt(word);
    }

    private static void allCalls(Due due, String page) {
        Set<String> calls = new TreeSet<>();
        for (Method m : StepAxis.class.getDeclaredMethods()) {
            if ((m.getModifiers() & java.lang.reflect.Modifier.PUBLIC) != 0) {
                calls.add(m.getName());
            }
        }
        due.is("calls of the face", calls.size(), 25);
        for (String name : calls) {
            due.holds("README.md tells of " + name, page.contains("`" + name + "("));
        }
        due.holds("README.md tells how the tests are run", page.contains(".ci/run"));
    }
}
