import java.io.IOException;
import java.lang.reflect.Constructor;
import java.lang.reflect.Field;
import java.lang.reflect.Method;
import java.lang.reflect.Modifier;
import java.nio.file.Files;
import java.nio.file.Path;
import java.util.ArrayList;
import java.util.HashSet;
import java.util.List;
import java.util.Set;

/** The rules of LANGUAGE.md that can be seen from the compiled class, or from the words of its file. */
public final class LanguageTest {
    private static final Path FILE = Path.of("src/main/java/HeadDesk.java");
    private static final Set<Class<?>> PLAIN = Set.of(void.class, int.class, long.class, short.class, byte.class,
        char.class, boolean.class, String.class, StringBuilder.class);
    private static final Set<Class<?>> CONSTANT = Set.of(int.class, long.class, boolean.class, char.class,
        String.class, int[].class, long[].class, char[].class, byte[].class);
    private static final String[] RULED_OUT = {"import ", "package ", "->", "::", "finally", "synchronized", "assert ",
        "Exact(", "catch", "static {", "Thread", "Random", "currentTime", "nanoTime", "System.out", "getMessage"};

    private static final List<Class<?>> classes = new ArrayList<>();

    public static void main(String[] args) throws IOException {
        collect(HeadDesk.class);
        classesInside();
        namesOfMethods();
        types();
        staticFields();
        sizes();
        constructorsHandOutNothing();
        words();
        lengthsOfMethods();
        Check.end();
    }

    private static void collect(Class<?> type) {
        classes.add(type);
        for (Class<?> inside : type.getDeclaredClasses()) {
            collect(inside);
        }
    }

    private static void classesInside() {
        Check.sentence("rule 1: the classes inside it are private or package-visible and static");
        for (Class<?> type : classes.subList(1, classes.size())) {
            int modifiers = type.getModifiers();
            Check.due(type + " is static", Modifier.isStatic(modifiers), true);
            Check.due(type + " is seen", Modifier.isPublic(modifiers) || Modifier.isProtected(modifiers), false);
        }
    }

    private static void namesOfMethods() {
        Check.sentence("rule 1: No private method bears the name of a public one");
        Set<String> face = new HashSet<>();
        for (Method method : HeadDesk.class.getDeclaredMethods()) {
            if (Modifier.isPublic(method.getModifiers())) {
                face.add(method.getName());
            }
        }
        for (Class<?> type : classes) {
            for (Method method : type.getDeclaredMethods()) {
                boolean bears = !Modifier.isPublic(method.getModifiers()) && face.contains(method.getName());
                Check.due(method + " bears a name of the face", bears, false);
            }
        }
    }

    private static void types() {
        Check.sentence("rule 3: Types");
        for (Class<?> type : classes) {
            for (Field field : type.getDeclaredFields()) {
                Check.due(field + " may be", mayBe(field.getType()), true);
            }
            for (Method method : type.getDeclaredMethods()) {
                Check.due(method + " may answer so", mayBe(method.getReturnType()), true);
                for (Class<?> parameter : method.getParameterTypes()) {
                    Check.due(method + " may take it", mayBe(parameter), true);
                }
            }
        }
    }

    private static boolean mayBe(Class<?> type) {
        return PLAIN.contains(type) || classes.contains(type) || type.isArray() && mayBe(type.getComponentType());
    }

    private static void staticFields() {
        Check.sentence("rule 5: Static fields are final");
        for (Class<?> type : classes) {
            for (Field field : type.getDeclaredFields()) {
                if (Modifier.isStatic(field.getModifiers())) {
                    Check.due(field + " is final", Modifier.isFinal(field.getModifiers()), true);
                    Check.due(field + " may be static", CONSTANT.contains(field.getType()), true);
                }
            }
        }
    }

    private static void sizes() {
        Check.sentence("rule 11: seven parameters, twelve classes, twenty fields");
        Check.due("at most twelve classes", classes.size() <= 12, true);
        for (Class<?> type : classes) {
            int fields = 0;
            for (Field field : type.getDeclaredFields()) {
                fields += Modifier.isStatic(field.getModifiers()) ? 0 : 1;
            }
            Check.due(type + " has at most twenty fields", fields <= 20, true);
            for (Method method : type.getDeclaredMethods()) {
                Check.due(method + " takes at most seven", method.getParameterCount() <= 7, true);
            }
        }
    }

    /** Only a constructor that takes an object can be handed a part of the one that is being made. */
    private static void constructorsHandOutNothing() {
        Check.sentence("rule 12: A constructor hands out nothing of the object that it makes");
        for (Class<?> type : classes) {
            for (Constructor<?> constructor : type.getDeclaredConstructors()) {
                for (Class<?> parameter : constructor.getParameterTypes()) {
                    boolean object = !parameter.isPrimitive() && parameter != String.class;
                    Check.due(constructor + " takes an object", object, false);
                }
            }
        }
    }

    private static void words() throws IOException {
        Check.sentence("rules 2, 4, 5, 6 and 13: what is ruled out");
        String code = Files.readString(FILE).replaceAll("(?s)/\\*.*?\\*/", "").replaceAll("//[^\n]*", "")
            .replaceAll("\"[^\"\n]*\"", "\"\"");
        for (String word : RULED_OUT) {
            Check.due("the file has " + word, code.contains(word), false);
        }
    }

    private static void lengthsOfMethods() throws IOException {
        Check.sentence("rule 11: Methods stay short (some sixty lines)");
        List<String> lines = Files.readAllLines(FILE);
        for (int at = 0; at < lines.size(); at++) {
            String line = lines.get(at);
            boolean method = line.matches(" {4}(?: {4})?\\S.*\\).*\\{");
            if (method) {
                String close = " ".repeat(line.indexOf(line.strip())) + "}";
                int end = at;
                while (end < lines.size() && !lines.get(end).equals(close)) {
                    end++;
                }
                Check.due(line.strip() + " is short", end - at < 60, true);
            }
        }
    }
}
