import java.io.IOException;
import java.io.UncheckedIOException;
import java.lang.reflect.Method;
import java.lang.reflect.Modifier;
import java.nio.file.Files;
import java.nio.file.Path;
import java.util.ArrayList;
import java.util.List;
import java.util.regex.Matcher;
import java.util.regex.Pattern;
import java.util.stream.Stream;

/** README.md: the run of calls that it shows is answered as it shows, and it names every call and every test. */
public final class ReadmeTest {
    private static final Due DUE = new Due();
    private static final String BEGIN = "```java";
    private static final String END = "```";
    private static final String NEW_OBJECT = "TurnedBar x = new TurnedBar();";
    private static final Pattern CALL = Pattern.compile("x\\.(\\w+)\\(([-0-9, ]*)\\); +// (true|false|NONE|\\d+)(:.*)?");
    private static final int MOST_CALLS = 512;

    public static void main(String[] args) throws IOException {
        List<String> lines = Files.readAllLines(Path.of("README.md"));
        List<String> run = runOf(lines);
        answersAreAsShown(run);
        everyCallIsShown(run);
        everyTestIsNamed(String.join("\n", lines));
        DUE.end();
    }

    /** The lines of the one block of Java. */
    private static List<String> runOf(List<String> lines) {
        DUE.is("blocks of Java", lines.stream().filter(BEGIN::equals).count(), 1);
        int begin = lines.indexOf(BEGIN);
        List<String> behind = lines.subList(begin + 1, lines.size());
        return behind.subList(0, behind.indexOf(END));
    }

    // A line that is no call with an answer counts as wrong, so that none is passed over.
    private static void answersAreAsShown(List<String> run) {
        DUE.is("it begins with a new object", run.get(0).equals(NEW_OBJECT), true);
        DUE.is("an object's calls are not too many", run.size() - 1 <= MOST_CALLS, true);
        TurnedBar x = new TurnedBar();
        for (String line : run.subList(1, run.size())) {
            Matcher call = CALL.matcher(line);
            if (call.matches()) {
                String answer = answer(x, call.group(1), numbersOf(call.group(2)));
                DUE.is(line + " is answered " + answer + ": as shown", answer.equals(call.group(3)), true);
            } else {
                DUE.is("a call with its answer: " + line, false, true);
            }
        }
    }

    private static int[] numbersOf(String text) {
        return text.isEmpty() ? new int[0] : Stream.of(text.split(", ")).mapToInt(Integer::parseInt).toArray();
    }

    private static String answer(TurnedBar x, String name, int[] numbers) {
        Object[] arguments = new Object[numbers.length];
        Class<?>[] types = new Class<?>[numbers.length];
        for (int i = 0; i < numbers.length; i++) {
            arguments[i] = numbers[i];
            types[i] = int.class;
        }
        try {
            String answer = TurnedBar.class.getMethod(name, types).invoke(x, arguments).toString();
            return answer.equals(String.valueOf(TurnedBar.NONE)) ? "NONE" : answer;
        } catch (ReflectiveOperationException e) {
            throw new IllegalStateException(name + " can't be called so", e);
        }
    }

    private static void everyCallIsShown(List<String> run) {
        for (Method method : TurnedBar.class.getDeclaredMethods()) {
            String call = "x." + method.getName() + "(";
            if (Modifier.isPublic(method.getModifiers())) {
                DUE.is(call + " is shown", run.stream().anyMatch(line -> line.startsWith(call)), true);
            }
        }
    }

    private static void everyTestIsNamed(String readme) {
        for (String name : testNames()) {
            DUE.is(name + " is named", readme.contains("`" + name + "`"), true);
        }
    }

    private static List<String> testNames() {
        List<String> names = new ArrayList<>();
        try (Stream<Path> files = Files.list(Path.of("src/test/java"))) {
            files.forEach(file -> names.add(file.getFileName().toString().replace(".java", "")));
        } catch (IOException e) {
            throw new UncheckedIOException(e);
        }
        return names;
    }
}
