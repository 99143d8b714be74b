import java.io.IOException;
import java.lang.reflect.Constructor;
import java.lang.reflect.Field;
import java.lang.reflect.Method;
import java.lang.reflect.Modifier;
import java.nio.file.Files;
import java.nio.file.Path;
import java.util.Arrays;
import java.util.List;
import java.util.Set;
import java.util.TreeSet;
import java.util.regex.Matcher;
import java.util.regex.Pattern;

/** The public face of the class, and the rules of LANGUAGE.md that its text or its shape can show. */
public final class FaceTest {
    private static final String SOURCE = "src/main/java/DictionaryTerms.java";
    private static final List<String> FACE = List.of(
        "int constructor(int)", "int type(int,int,int)", "int cls(int)", "int superOf(int,int)",
        "int instance(int,int)", "int context(int,int,int)", "int node(int,int,int,int)",
        "int body(int,int,int)", "int standard(int,int,int)", "int dictionary(int,int)", "int lack(int)",
        "int part(int,int)", "int about(int,int)", "long value(int,int)", "int failed(int)",
        "int step(int,int)", "int begun(int,int)", "int typeOf(int,int)", "int count(int)");

    private static int wrong = 0;

    private static void due(String what, Object got, Object want) {
        if (!got.equals(want)) {
            wrong++;
            System.out.println(what + ": " + got + ", due is " + want);
        }
    }

    public static void main(String[] args) throws IOException {
        shape();
        for (Class<?> inside : DictionaryTerms.class.getDeclaredClasses()) {
            nested(inside);
        }
        text(Files.readString(Path.of(SOURCE)));
        System.out.println(wrong == 0 ? "the face is as due" : wrong + " things are not as due");
        if (wrong != 0) {
            System.exit(1);
        }
    }

    private static void shape() {
        Class<DictionaryTerms> face = DictionaryTerms.class;
        due("public and final", Modifier.toString(face.getModifiers()), "public final");
        Constructor<?>[] constructors = face.getDeclaredConstructors();
        due("constructors", constructors.length, 1);
        due("the constructor", constructors[0].toString(), "public DictionaryTerms()");
        Set<String> open = new TreeSet<>();
        for (Method method : face.getDeclaredMethods()) {
            if (!Modifier.isPrivate(method.getModifiers())) {
                due(method.getName(), Modifier.toString(method.getModifiers()), "public");
                String text = method.toString().replace("public ", "").replace("DictionaryTerms.", "");
                open.add(text);
            }
        }
        due("methods", open, new TreeSet<>(FACE));
        Set<String> constants = new TreeSet<>();
        for (Field field : face.getDeclaredFields()) {
            if (!Modifier.isPrivate(field.getModifiers())) {
                constants.add(field.toString().replace("DictionaryTerms.", ""));
            }
        }
        String form = "public static final int ";
        due("constants", constants,
            new TreeSet<>(Arrays.asList(form + "NONE", form + "BAD", form + "FULL", form + "LACKS")));
    }

    private static void nested(Class<?> inside) {
        due(inside + " is static", Modifier.isStatic(inside.getModifiers()), true);
        int fields = 0;
        for (Field field : inside.getDeclaredFields()) {
            boolean constant = Modifier.isStatic(field.getModifiers());
            due(field + " is a constant", constant && !Modifier.isFinal(field.getModifiers()), false);
            fields += constant ? 0 : 1;
        }
        due(inside + " has at most 20 fields", fields <= 20, true);
        for (Method method : inside.getDeclaredMethods()) {
            boolean ofFace = FACE.stream().anyMatch(line -> line.contains(" " + method.getName() + "("));
            due(method + " bears a name of the face", ofFace, false);
            due(method + " has at most 7 parameters", method.getParameterCount() <= 7, true);
        }
    }

    private static void text(String source) {
        String code = source.replaceAll("(?s)/\\*.*?\\*/", "").replaceAll("//.*", "");
        for (String word : List.of("throw", "throws", "try", "catch", "synchronized", "assert", "package",
                "Exact", "double", "float", "Random", "System", "Thread", "hashCode", "protected")) {
            due("the word " + word, Pattern.compile("\\b\\w*" + word + "\\b").matcher(code).find(), false);
        }
        due("a lambda or a method reference", code.contains("->") || code.contains("::"), false);
        due("imports", code.lines().filter(line -> line.startsWith("import ")).toList(),
            List.of("import java.util.Arrays;"));
        Matcher made = Pattern.compile("(?m)^\\s*(private final .*new (int|long|boolean)\\[|\\w+ = new [A-Z])").matcher(code);
        Matcher all = Pattern.compile("\\bnew\\b").matcher(code);
        due("objects are made by constructors alone", all.results().count(), made.results().count());
    }
}
