import java.io.IOException;
import java.lang.reflect.Constructor;
import java.lang.reflect.Field;
import java.lang.reflect.Method;
import java.lang.reflect.Modifier;
import java.nio.file.Files;
import java.nio.file.Path;
import java.util.Arrays;
import java.util.HashSet;
import java.util.Set;
import java.util.TreeSet;
import java.util.regex.Matcher;
import java.util.regex.Pattern;

/** The public face, and the rules of LANGUAGE.md that can be seen from the class or its text. */
public final class FaceTest {
    private static final Set<String> FACE = new TreeSet<>(Arrays.asList(
            "public boolean PolicyDesk.write(long)",
            "public int PolicyDesk.add() throws java.lang.IllegalArgumentException,java.lang.IllegalStateException",
            "public int PolicyDesk.position()",
            "public boolean PolicyDesk.cut(int)",
            "public int PolicyDesk.accept() throws java.lang.IllegalArgumentException,java.lang.IllegalStateException",
            "public int PolicyDesk.fault()",
            "public int PolicyDesk.may(int,int,int) throws java.util.NoSuchElementException",
            "public int PolicyDesk.made(int,int,int)",
            "public int PolicyDesk.flow(int,int)",
            "public int PolicyDesk.count(int)",
            "public int PolicyDesk.image()",
            "public int PolicyDesk.imageAt(int)",
            "public int PolicyDesk.feed(long,int)",
            "public int PolicyDesk.read() throws java.lang.IllegalArgumentException"));

    public static void main(String[] args) throws IOException {
        Bench.due("the class", Modifier.toString(PolicyDesk.class.getModifiers()), "public final");
        methods();
        constructors();
        fields();
        classesInside();
        words(Files.readString(Path.of("src/main/java/PolicyDesk.java")));
        Bench.finish();
    }

    private static void methods() {
        Set<String> open = new TreeSet<>();
        Set<String> openNames = new HashSet<>();
        for (Method method : PolicyDesk.class.getDeclaredMethods()) {
            if (!Modifier.isPrivate(method.getModifiers())) {
                open.add(method.toString());
                openNames.add(method.getName());
            }
        }
        Bench.due("the methods of the face", open, FACE);
        for (Method method : PolicyDesk.class.getDeclaredMethods()) {
            boolean isClosed = Modifier.isPrivate(method.getModifiers());
            Bench.due("a private " + method.getName(), isClosed && openNames.contains(method.getName()), false);
        }
    }

    private static void constructors() {
        Constructor<?>[] all = PolicyDesk.class.getDeclaredConstructors();
        Bench.due("the constructors", Arrays.toString(all), "[public PolicyDesk(int)]");
    }

    private static void fields() {
        for (Field field : PolicyDesk.class.getDeclaredFields()) {
            String modifiers = Modifier.toString(field.getModifiers());
            if (field.getName().equals("NONE")) {
                Bench.due("NONE", modifiers + " " + field.getType(), "public static final int");
            } else {
                Bench.due("a field " + field.getName(), modifiers.startsWith("private"), true);
                Bench.due("static and not final: " + field.getName(), modifiers.equals("private static"), false);
            }
        }
    }

    private static void classesInside() {
        Class<?>[] inside = PolicyDesk.class.getDeclaredClasses();
        Bench.due("more than some twelve classes", inside.length > 12, false);
        for (Class<?> one : inside) {
            int modifiers = one.getModifiers();
            Bench.due(one + " is static", Modifier.isStatic(modifiers), true);
            Bench.due(one + " is open", Modifier.isPublic(modifiers) || Modifier.isProtected(modifiers), false);
            for (Field field : one.getDeclaredFields()) {
                int ofField = field.getModifiers();
                Bench.due("state in " + field, Modifier.isStatic(ofField) && !Modifier.isFinal(ofField), false);
            }
        }
    }

    private static void words(String source) {
        String code = source.replaceAll("(?s)/\\*.*?\\*/", "").replaceAll("//[^\n]*", "");
        String[] never = {"\\bfinally\\b", "::", "\\bsynchronized\\b", "\\bassert\\b", "\\bSystem\\.(?!arraycopy)", "\\bpackage\\b",
            "\\bThread\\b", "\\bRandom\\b", "\" *\\+|\\+ *\"", "\\bstatic *\\{", "Exact\\(",
            // an arrow that is no switch's
            "(?m)^(?!\\s*(?:case|default)\\b).*->"};
        for (String word : never) {
            Bench.due(word + " in the code", Pattern.compile(word).matcher(code).find(), false);
        }
        String[] machine = {"Throwable", "Error", "Exception", "RuntimeException", "IndexOutOfBoundsException",
            "ArrayIndexOutOfBoundsException", "NullPointerException", "ClassCastException", "NegativeArraySizeException",
            "ArrayStoreException"};
        for (String name : machine) {
            Pattern caught = Pattern.compile("\\bcatch *\\([^)]*\\b" + name + "\\b");
            Bench.due("a catch of " + name, caught.matcher(code).find(), false);
        }
        dueAmong("import", code, "import ([\\w.]+);", Set.of("java.util.Arrays", "java.util.ArrayList", "java.util.Iterator",
                "java.util.List", "java.util.NoSuchElementException"));
        dueAmong("throw", code, "throw new (?:java\\.util\\.)?(\\w+)\\((?:\"[^\"]*\")?\\)",
                Set.of("IllegalArgumentException", "IllegalStateException", "NoSuchElementException", "IndexOutOfBoundsException",
                "ArithmeticException", "UnsupportedOperationException", "RuntimeException"));
    }

    private static void dueAmong(String what, String code, String pattern, Set<String> allowed) {
        Matcher matcher = Pattern.compile(pattern).matcher(code);
        int found = 0;
        while (matcher.find()) {
            found++;
            Bench.due(what + " " + matcher.group(1), allowed.contains(matcher.group(1)), true);
        }
        Matcher every = Pattern.compile("\\b" + what + "\\b").matcher(code);
        int all = 0;
        while (every.find()) {
            all++;
        }
        Bench.due(what + "s of that form", found, all);
    }
}
