import java.io.IOException;
import java.lang.reflect.Constructor;
import java.lang.reflect.Field;
import java.lang.reflect.Method;
import java.lang.reflect.Modifier;
import java.nio.charset.StandardCharsets;
import java.nio.file.Files;
import java.nio.file.Path;
import java.util.Arrays;
import java.util.Set;
import java.util.TreeSet;
import java.util.regex.Matcher;
import java.util.regex.Pattern;

/** The document's public face, and what of LANGUAGE.md can be seen from outside. */
public final class ClashBoxesFace {
    private static final String ARGUMENT = " throws java.lang.IllegalArgumentException";
    private static final String BOTH = ARGUMENT + ",java.lang.IllegalStateException";
    private static final String[] FACE = {
        "public int ClashBoxes.box(int,int,int,int,int,int,int)" + BOTH,
        "public int ClashBoxes.tube(int,int,int,int,int,int,int)" + BOTH,
        "public int ClashBoxes.margin(int,int)" + ARGUMENT,
        "public boolean ClashBoxes.free(int,int,boolean)" + ARGUMENT,
        "public boolean ClashBoxes.move(int,int,int)" + ARGUMENT,
        "public int ClashBoxes.drop(int)" + ARGUMENT,
        "public int ClashBoxes.pair(int,int)" + ARGUMENT,
        "public int ClashBoxes.clashes(int)" + ARGUMENT,
        "public int ClashBoxes.clash(int,int,int)" + ARGUMENT,
        "public int ClashBoxes.groups()",
        "public int ClashBoxes.group(int)" + ARGUMENT,
        "public long ClashBoxes.common(int,int)" + ARGUMENT,
        "public int ClashBoxes.inside(int,int,int,int,int,int,int)" + ARGUMENT,
        "public int ClashBoxes.shift(int,int,int)" + ARGUMENT,
        "public int ClashBoxes.hull(int,int,int)" + ARGUMENT,
        "public int ClashBoxes.parts()",
        "public static final int ClashBoxes.NONE",
        "public static final int ClashBoxes.NO",
        "public ClashBoxes()",
    };
    private static final String[] RULED_OUT = {"import", "package", "try", "catch", "finally", "synchronized", "assert",
        "native", "transient", "volatile", "var", "protected", "->", "::", "Object", "Exact"};

    private static int wrong = 0;

    private static void due(String what, Object got, Object want) {
        if (!got.equals(want)) {
            wrong++;
            System.out.println(what + " is " + got + ", due is " + want);
        }
    }

    private static void face() {
        Set<String> found = new TreeSet<>();
        Set<String> names = new TreeSet<>();
        for (Method m : ClashBoxes.class.getDeclaredMethods()) {
            if (!Modifier.isPrivate(m.getModifiers())) {
                found.add(m.toString());
                names.add(m.getName());
            }
        }
        for (Field f : ClashBoxes.class.getDeclaredFields()) {
            if (!Modifier.isPrivate(f.getModifiers())) {
                found.add(f.toString());
            }
        }
        for (Constructor<?> made : ClashBoxes.class.getDeclaredConstructors()) {
            found.add(made.toString());
        }
        due("the face", found, new TreeSet<>(Arrays.asList(FACE)));
        due("the class's modifiers", Modifier.toString(ClashBoxes.class.getModifiers()), "public final");
        for (Method m : ClashBoxes.class.getDeclaredMethods()) {
            boolean hides = Modifier.isPrivate(m.getModifiers()) && names.contains(m.getName());
            due("a private method of a public one's name, " + m.getName() + ",", hides, false);
            due("more than seven parameters of " + m.getName(), m.getParameterCount() > 7, false);
        }
    }

    private static void members() {
        for (Field f : ClashBoxes.class.getDeclaredFields()) {
            boolean state = Modifier.isStatic(f.getModifiers()) && !Modifier.isFinal(f.getModifiers());
            due("static state in " + f.getName(), state, false);
        }
        for (Class<?> c : ClashBoxes.class.getDeclaredClasses()) {
            due("the class " + c.getSimpleName() + " static", Modifier.isStatic(c.getModifiers()), true);
            due("the class " + c.getSimpleName() + " public", Modifier.isPublic(c.getModifiers()), false);
        }
    }

    private static void text() throws IOException {
        String whole = Files.readString(Path.of("src/main/java/ClashBoxes.java"), StandardCharsets.ISO_8859_1);
        String code = whole.replaceAll("(?s)/\\*.*?\\*/", "").replaceAll("//[^\n]*", "").replaceAll("\"[^\"]*\"", "\"\"");
        for (String word : RULED_OUT) {
            String edge = Character.isLetter(word.charAt(0)) ? "\\b" : "";
            Matcher m = Pattern.compile(edge + Pattern.quote(word) + edge).matcher(code);
            due("the word " + word + " in the class", m.find(), false);
        }
        Matcher thrown = Pattern.compile("\\bthrow\\b\\s*([^;]*);").matcher(code);
        while (thrown.find()) {
            String what = thrown.group(1);
            boolean fits = what.equals("new IllegalArgumentException(\"\")") || what.equals("new IllegalStateException(\"\")");
            due("the form of throw " + what, fits, true);
        }
    }

    public static void main(String[] args) throws IOException {
        face();
        members();
        text();
        System.out.println(wrong == 0 ? "the face is as due" : wrong + " things are not as due");
        if (wrong != 0) {
            System.exit(1);
        }
    }
}
