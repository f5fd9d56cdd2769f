import java.io.IOException;
import java.lang.management.ManagementFactory;
import java.lang.reflect.Field;
import java.lang.reflect.Method;
import java.lang.reflect.Modifier;
import java.nio.file.Files;
import java.nio.file.Path;
import java.util.ArrayList;
import java.util.HashSet;
import java.util.List;
import java.util.Set;
import java.util.regex.Pattern;
import java.util.stream.Stream;

/** The rules of LANGUAGE.md that a program can look at, by their numbers; the others are for a reader. */
public final class LanguageTest {
    private static final Due DUE = new Due();
    private static final Path MAIN = Path.of("src/main/java");
    private static final Path FILE = MAIN.resolve("TurnedBar.java");
    private static final Set<Class<?>> CONSTANTS = Set.of(
        int.class, long.class, boolean.class, char.class, String.class, int[].class, long[].class, char[].class, byte[].class);
    private static final Set<String> IMPORTS = Set.of("java.util.Arrays", "java.util.ArrayList", "java.util.List");
    // Of all these the document asks for none; rule 6 lets no call throw where the document does not say so.
    private static final List<String> NOT_USED = List.of(
        "\\bthrow\\b", "\\btry\\b", "\\bcatch\\b", "\\bfinally\\b", "\\bsynchronized\\b", "\\bassert\\b", "->", "::", "static \\{",
        "\\bSystem\\.(?!arraycopy\\()", "\\bMath\\.(?!min\\(|max\\()", "\\bObject\\b", "\\bvar\\b", "\\bNaN\\b", "\\.getClass\\(",
        "\\.hashCode\\(", "\\.toString\\(", "\\bjava\\.(?!util\\.)", "\\bthis[,;)]");
    private static final int MOST_PARAMETERS = 7;
    private static final int MOST_LINES = 60;
    private static final int MOST_CLASSES = 12;
    private static final int MOST_FIELDS = 20;
    private static final long MOST_BYTES = 32 * 1024;

    public static void main(String[] args) throws IOException {
        List<String> lines = Files.readAllLines(FILE);
        oneFile();
        imports(lines);
        wordsNotUsed(lines);
        methodsAreShort(lines);
        List<Class<?>> classes = classes();
        DUE.is("rule 11: classes are few", classes.size() <= MOST_CLASSES, true);
        for (Class<?> each : classes) {
            methods(each);
            fields(each, new HashSet<>(classes));
        }
        noPrivateMethodBearsAPublicName();
        callsMakeNothing();
        DUE.end();
    }

    private static void oneFile() throws IOException {
        try (Stream<Path> files = Files.walk(MAIN)) {
            DUE.is("files of the program", files.filter(Files::isRegularFile).count(), 1);
        }
    }

    private static void imports(List<String> lines) {
        for (String line : lines) {
            DUE.is("no package line", line.startsWith("package "), false);
            if (line.startsWith("import ")) {
                DUE.is("rule 4: " + line, IMPORTS.contains(line.substring("import ".length(), line.length() - 1)), true);
            }
        }
    }

    private static void wordsNotUsed(List<String> lines) {
        for (String line : lines) {
            boolean isComment = line.trim().startsWith("//") || line.trim().startsWith("/**");
            for (String word : NOT_USED) {
                if (!isComment && !line.startsWith("import ")) {
                    DUE.is(word + " stands in: " + line, Pattern.compile(word).matcher(line).find(), false);
                }
            }
        }
    }

    // A method ends at the first closing brace that stands as far in as it does.
    private static void methodsAreShort(List<String> lines) {
        Pattern head = Pattern.compile("( {4}| {8})[a-zA-Z].*\\) \\{");
        for (int i = 0; i < lines.size(); i++) {
            if (head.matcher(lines.get(i)).matches()) {
                String indent = lines.get(i).substring(0, lines.get(i).length() - lines.get(i).stripLeading().length());
                int length = lines.subList(i, lines.size()).indexOf(indent + "}") + 1;
                DUE.is("rule 11: is short: " + lines.get(i), length > 0 && length <= MOST_LINES, true);
            }
        }
    }

    private static List<Class<?>> classes() {
        List<Class<?>> classes = new ArrayList<>();
        classes.add(TurnedBar.class);
        for (int i = 0; i < classes.size(); i++) {
            classes.addAll(List.of(classes.get(i).getDeclaredClasses()));
        }
        return classes;
    }

    private static void methods(Class<?> each) {
        for (Method method : each.getDeclaredMethods()) {
            DUE.is("rule 11: few parameters: " + method, method.getParameterCount() <= MOST_PARAMETERS, true);
            DUE.is("rule 6: equals, hashCode or toString: " + method,
                Set.of("equals", "hashCode", "toString", "finalize").contains(method.getName()), false);
        }
    }

    private static void fields(Class<?> each, Set<Class<?>> own) {
        int count = 0;
        for (Field field : each.getDeclaredFields()) {
            if (Modifier.isStatic(field.getModifiers())) {
                DUE.is("rule 5: final: " + field, Modifier.isFinal(field.getModifiers()), true);
                DUE.is("rule 5: a constant's type: " + field, CONSTANTS.contains(field.getType()), true);
            } else {
                count++;
                Class<?> type = field.getType().isArray() ? field.getType().getComponentType() : field.getType();
                DUE.is("rule 3: type: " + field, type.isPrimitive() || own.contains(type), true);
            }
        }
        DUE.is("rule 11: few fields: " + each, count <= MOST_FIELDS, true);
    }

    private static void noPrivateMethodBearsAPublicName() {
        Set<String> open = new HashSet<>();
        for (Method method : TurnedBar.class.getMethods()) {
            open.add(method.getName());
        }
        for (Class<?> each : classes()) {
            for (Method method : each.getDeclaredMethods()) {
                boolean isOfFace = each == TurnedBar.class && Modifier.isPublic(method.getModifiers());
                DUE.is("rule 1: bears a public name: " + method, !isOfFace && open.contains(method.getName()), false);
            }
        }
    }

    /** Rule 12 and the room of a run: an object's rows are made with it, and a call makes nothing more. */
    private static void callsMakeNothing() {
        var threads = (com.sun.management.ThreadMXBean) ManagementFactory.getThreadMXBean();
        // The first rounds are not looked at, as Java itself makes objects where code runs for the first time.
        long made = 0;
        for (int round = 0; round < 4; round++) {
            long before = threads.getCurrentThreadAllocatedBytes();
            useUp(new TurnedBar());
            made = threads.getCurrentThreadAllocatedBytes() - before;
        }
        DUE.is("rule 12: bytes that a run makes, " + made + ", are few", made <= MOST_BYTES, true);
    }

    private static void useUp(TurnedBar x) {
        for (int i = 0; i < 20; i++) {
            x.bar(8, 12, 12);
            x.profile(i % 12, i % 9);
            x.spot(i % 3, i % 5 - 2, i % 4);
            x.choose(i % 3);
            x.at(i % 3, i % 12, 9, 1);
            x.reach(i % 3, i % 12, 7);
            for (int again = 0; again < 3; again++) {
                x.plan();
                x.edit(1, 0, 0, 1 + i);
                x.move(1, 2);
                x.simulate(i);
                x.stock(i % 12, i % 8);
            }
            x.undo();
            x.fault();
            x.left();
            x.steps(0);
        }
        x.restart();
        x.clear(0);
    }
}
