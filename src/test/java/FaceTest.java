import java.io.IOException;
import java.lang.reflect.Constructor;
import java.lang.reflect.Field;
import java.lang.reflect.Method;
import java.lang.reflect.Modifier;
import java.nio.file.Files;
import java.nio.file.Path;
import java.util.Arrays;
import java.util.List;
import java.util.TreeSet;
import java.util.stream.Collectors;
import java.util.stream.Stream;

/** The public face, and those rules of LANGUAGE.md that reflection or a look at the text can tell. */
public final class FaceTest {
    private static final Due DUE = new Due();
    private static final String INDEX = "IndexOutOfBoundsException";
    private static final String STATE = "IllegalStateException";
    private static final String ARGUMENT = "IllegalArgumentException";

    private static final List<String> FACE = List.of(
            "int signal(boolean,boolean) " + STATE,
            "int edge(int,boolean) " + INDEX + " " + STATE,
            "int place(boolean) " + STATE,
            "void arc(int,int,boolean) " + INDEX + " " + ARGUMENT,
            "int analyse()",
            "int states() " + STATE,
            "int code(int) " + STATE + " " + INDEX,
            "int marking(int) " + STATE + " " + INDEX,
            "int found(int) " + STATE + " " + INDEX,
            "int excited(int) " + STATE + " " + INDEX,
            "int fault()",
            "int synthesise() " + STATE + " UnsupportedOperationException",
            "int products(int) " + INDEX,
            "int product(int,int) " + INDEX,
            "int append(int,int) " + INDEX + " " + ARGUMENT + " " + STATE,
            "void strip(int) " + INDEX,
            "int value(int,int) " + INDEX,
            "int check() " + STATE);

    public static void main(String[] args) throws IOException {
        Class<?> type = ClocklessGates.class;
        DUE.that("the class is public and final",
                Modifier.isPublic(type.getModifiers()) && Modifier.isFinal(type.getModifiers()));
        publicMembersAreTheDocuments(type);
        otherMembersAreHidden(type);
        textKeepsToTheRules(Files.readString(Path.of("src/main/java/ClocklessGates.java")));
        DUE.end();
    }

    private static void publicMembersAreTheDocuments(Class<?> type) {
        TreeSet<String> methods = new TreeSet<>();
        for (Method method : type.getDeclaredMethods()) {
            if (Modifier.isPublic(method.getModifiers())) {
                methods.add(describe(method));
            }
        }
        DUE.outcome("the public methods", new TreeSet<>(FACE).toString(), methods.toString());
        Constructor<?>[] constructors = type.getDeclaredConstructors();
        DUE.that("one public constructor without parameters", constructors.length == 1
                && Modifier.isPublic(constructors[0].getModifiers()) && constructors[0].getParameterCount() == 0);
    }

    private static String describe(Method method) {
        String parameters = Stream.of(method.getParameterTypes()).map(Class::getSimpleName)
                .collect(Collectors.joining(",", "(", ")"));
        String exceptions = Stream.of(method.getExceptionTypes()).map(e -> " " + e.getSimpleName())
                .collect(Collectors.joining());
        return method.getReturnType().getSimpleName() + " " + method.getName() + parameters + exceptions;
    }

    private static void otherMembersAreHidden(Class<?> type) {
        for (Field field : type.getDeclaredFields()) {
            int modifiers = field.getModifiers();
            DUE.that("field " + field.getName() + " is private, or NONE",
                    Modifier.isPrivate(modifiers) || field.getName().equals("NONE"));
            DUE.that("static field " + field.getName() + " is final",
                    !Modifier.isStatic(modifiers) || Modifier.isFinal(modifiers));
        }
        for (Method method : type.getDeclaredMethods()) {
            DUE.that("method " + method.getName() + " is public or private",
                    Modifier.isPublic(method.getModifiers()) || Modifier.isPrivate(method.getModifiers()));
        }
        for (Class<?> inner : type.getDeclaredClasses()) {
            DUE.that("class " + inner.getName() + " is static and hidden", Modifier.isStatic(inner.getModifiers())
                    && !Modifier.isPublic(inner.getModifiers()) && !Modifier.isProtected(inner.getModifiers()));
            DUE.that("class " + inner.getName() + " has some twenty fields", inner.getDeclaredFields().length <= 20);
            for (Method method : inner.getDeclaredMethods()) {
                DUE.that("method " + method.getName() + " of " + inner.getName() + " has a name of its own",
                        FACE.stream().noneMatch(face -> face.contains(" " + method.getName() + "(")));
                DUE.that("method " + method.getName() + " has at most seven parameters",
                        method.getParameterCount() <= 7);
            }
        }
        DUE.that("some twelve classes", type.getDeclaredClasses().length <= 11);
    }

    private static void textKeepsToTheRules(String text) {
        for (String word : Arrays.asList("import ", "package ", "->", "::", "try ", "catch", "finally", "synchronized",
                "assert ", "Exact(", "hashCode", "toString", "Random", "System.out", "nanoTime", "while (true)")) {
            DUE.that("the text has no " + word, !text.contains(word));
        }
        DUE.that("the text holds characters below 128 alone", text.chars().allMatch(c -> c < 128));
    }
}
