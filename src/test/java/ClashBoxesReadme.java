import java.io.IOException;
import java.lang.reflect.InvocationTargetException;
import java.lang.reflect.Method;
import java.lang.reflect.Modifier;
import java.nio.charset.StandardCharsets;
import java.nio.file.Files;
import java.nio.file.Path;
import java.util.HashMap;
import java.util.List;
import java.util.Map;
import java.util.Set;
import java.util.TreeSet;
import java.util.regex.Matcher;
import java.util.regex.Pattern;

/** The example in README.md: each call answers what stands behind it, and no call of the face is missing. */
public final class ClashBoxesReadme {
    private static final String START = "ClashBoxes c = new ClashBoxes();";
    private static final Pattern LINE =
        Pattern.compile("(?:int (\\w+) = )?c\\.(\\w+)\\(([^)]*)\\);\\s*// (-?\\d+|true|false)(?::.*)?");
    private static final Pattern TABLE_ROW = Pattern.compile("\\| `(\\w+)` \\|.*");

    private static final Map<String, Method> face = new HashMap<>();
    private static final Map<String, String> numbers = new HashMap<>();
    private static int wrong = 0;

    private static void due(String what, Object got, Object want) {
        if (!String.valueOf(got).equals(String.valueOf(want))) {
            wrong++;
            System.out.println("README.md: " + what + " answered " + got + ", due is " + want);
        }
    }

    private static Object valueOf(String word, Class<?> type) {
        String text = numbers.getOrDefault(word, word);
        if (type == boolean.class) {
            return Boolean.valueOf(text);
        }
        return Integer.valueOf(text);
    }

    private static Object answerOf(ClashBoxes c, Method call, String words) throws IllegalAccessException {
        String[] word = words.isEmpty() ? new String[0] : words.split(", ");
        Class<?>[] types = call.getParameterTypes();
        if (word.length != types.length) {
            return "nothing, as it has " + word.length + " arguments";
        }
        Object[] values = new Object[types.length];
        for (int i = 0; i < types.length; i++) {
            values[i] = valueOf(word[i], types[i]);
        }
        try {
            return call.invoke(c, values);
        } catch (InvocationTargetException e) {
            return "throws." + e.getCause().getClass().getSimpleName();
        }
    }

    private static void example(List<String> lines) throws IllegalAccessException {
        ClashBoxes c = new ClashBoxes();
        Set<String> called = new TreeSet<>();
        int first = lines.indexOf(START) + 1;
        due("the example's first line", first > 0, true);
        for (int i = first; i > 0 && i < lines.size() && !lines.get(i).equals("```"); i++) {
            Matcher m = LINE.matcher(lines.get(i));
            boolean isCall = m.matches() && face.containsKey(m.group(2));
            due("a call in the line " + lines.get(i), isCall, true);
            if (isCall) {
                Object got = answerOf(c, face.get(m.group(2)), m.group(3));
                due(m.group(2) + "(" + m.group(3) + ")", got, m.group(4));
                numbers.put(String.valueOf(m.group(1)), String.valueOf(got));
                called.add(m.group(2));
            }
        }
        due("the calls of the example", called, new TreeSet<>(face.keySet()));
    }

    private static void table(List<String> lines) {
        Set<String> told = new TreeSet<>();
        for (String line : lines) {
            Matcher m = TABLE_ROW.matcher(line);
            if (m.matches()) {
                told.add(m.group(1));
            }
        }
        due("the calls of the table", told, new TreeSet<>(face.keySet()));
    }

    public static void main(String[] args) throws IOException, IllegalAccessException {
        for (Method m : ClashBoxes.class.getDeclaredMethods()) {
            if (Modifier.isPublic(m.getModifiers())) {
                face.put(m.getName(), m);
            }
        }
        List<String> lines = Files.readAllLines(Path.of("README.md"), StandardCharsets.UTF_8);
        example(lines);
        table(lines);
        System.out.println(wrong == 0 ? "all answers are as due" : wrong + " things are not as due");
        if (wrong != 0) {
            System.exit(1);
        }
    }
}
