import java.io.IOException;
import java.lang.reflect.Constructor;
import java.lang.reflect.Field;
import java.lang.reflect.Method;
import java.lang.reflect.Modifier;
import java.nio.file.Files;
import java.nio.file.Path;
import java.util.Arrays;
import java.util.HashSet;
import java.util.Set;
import java.util.TreeSet;
import java.util.regex.Pattern;

/** The public face, and those rules of the language that can be seen without reading. */
public final class FaceTest {
    private static final String[] FACE = {"boolean type(long)", "boolean repeat(int,int)", "int read(int)",
        "int write(int)", "boolean push(long)", "boolean power(int,int)", "boolean add(int)",
        "int show(long,int,int,boolean)", "int parse(int,int,boolean)", "long value()", "int word(int)", "int bits()",
        "int characterAt(int)", "int typed()"};
    private static final String[] NO_WORDS = {"import", "throw", "throws", "try", "catch", "finally", "synchronized", "assert",
        "protected", "package", "native", "volatile", "transient", "Object", "Exception", "RuntimeException", "Throwable",
        "System\\.(?!arraycopy\\()\\w+", "\\w+Exact", "Random", "Thread", "->", "::", "for \\(;;\\)", "while \\(true\\)"};

    public static void main(String[] args) throws IOException {
        methods();
        constructorsAndFields();
        classesInside();
        source();
        Checks.finish("FaceTest");
    }

    private static void methods() {
        Set<String> found = new TreeSet<>();
        Set<String> publicNames = new HashSet<>();
        for (Method method : DigitMill.class.getDeclaredMethods()) {
            int modifiers = method.getModifiers();
            if (Modifier.isPublic(modifiers)) {
                found.add(method.getReturnType() + " " + method.getName()
                    + Arrays.toString(method.getParameterTypes()).replace("[", "(").replace("]", ")").replace(" ", ""));
                publicNames.add(method.getName());
                Checks.due(method + " is no static one", Modifier.isStatic(modifiers), false);
            } else {
                Checks.due(method + " is private", Modifier.isPrivate(modifiers), true);
            }
        }
        Checks.due("the face is " + found, found.equals(new TreeSet<>(Arrays.asList(FACE))), true);
        noPrivateNamesakes(DigitMill.class, publicNames);
        for (Class<?> inside : DigitMill.class.getDeclaredClasses()) {
            noPrivateNamesakes(inside, publicNames);
        }
    }

    private static void noPrivateNamesakes(Class<?> type, Set<String> publicNames) {
        for (Method method : type.getDeclaredMethods()) {
            boolean namesake = !Modifier.isPublic(method.getModifiers()) && publicNames.contains(method.getName());
            Checks.due(method + " bears a public name", namesake, false);
        }
    }

    private static void constructorsAndFields() {
        int modifiers = DigitMill.class.getModifiers();
        Checks.due("public and final", Modifier.isPublic(modifiers) && Modifier.isFinal(modifiers), true);
        Checks.due("no package", DigitMill.class.getPackageName().length(), 0);
        Constructor<?>[] constructors = DigitMill.class.getDeclaredConstructors();
        Checks.due("one constructor", constructors.length, 1);
        Checks.due("it takes nothing", constructors[0].getParameterCount(), 0);
        Checks.due("it is public", Modifier.isPublic(constructors[0].getModifiers()), true);
        for (Field field : DigitMill.class.getDeclaredFields()) {
            Checks.due(field + " is private", Modifier.isPrivate(field.getModifiers()), true);
        }
        finalStatics(DigitMill.class);
    }

    private static void finalStatics(Class<?> type) {
        for (Field field : type.getDeclaredFields()) {
            boolean shared = Modifier.isStatic(field.getModifiers());
            Checks.due(field + " is final if static", !shared || Modifier.isFinal(field.getModifiers()), true);
        }
    }

    private static void classesInside() {
        for (Class<?> inside : DigitMill.class.getDeclaredClasses()) {
            int modifiers = inside.getModifiers();
            Checks.due(inside + " is static", Modifier.isStatic(modifiers), true);
            Checks.due(inside + " is not seen", Modifier.isPublic(modifiers) || Modifier.isProtected(modifiers), false);
            finalStatics(inside);
        }
    }

    private static void source() throws IOException {
        String source = Files.readString(Path.of("src/main/java/DigitMill.java"));
        String code = source.replaceAll("(?s)/\\*.*?\\*/", "").replaceAll("//[^\n]*", "");
        for (String word : NO_WORDS) {
            String whole = Character.isLetter(word.charAt(0)) ? "\\b" + word + "\\b" : word;
            Checks.due("the source has " + word, Pattern.compile(whole).matcher(code).find(), false);
        }
    }
}
