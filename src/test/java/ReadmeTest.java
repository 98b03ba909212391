import java.io.IOException;
import java.lang.reflect.Method;
import java.lang.reflect.Modifier;
import java.nio.file.Files;
import java.nio.file.Path;
import java.util.Set;
import java.util.TreeSet;
import java.util.regex.Matcher;
import java.util.regex.Pattern;

/** The calls that README.md shows answer what it tells beside them. It is run from the project's directory. */
public final class ReadmeTest {
    private static final Pattern MAKING = Pattern.compile(".* = new ContinuedRatios\\((.*?)\\);.*");
    private static final Pattern CALL = Pattern.compile("x\\.(\\w+)\\((.*?)\\); +// (\\S+): .*");

    private static ContinuedRatios x = null;
    private static final Set<String> shown = new TreeSet<>();
    private static int wrong = 0;

    private static void tellWrong(String what) {
        wrong++;
        System.out.println("README.md: " + what);
    }

    private static Object[] numbers(String list) {
        String[] words = list.isEmpty() ? new String[0] : list.split(", ");
        Object[] numbers = new Object[words.length];
        for (int i = 0; i < words.length; i++) {
            numbers[i] = Integer.valueOf(words[i]);
        }
        return numbers;
    }

    private static Method methodNamed(String name) {
        for (Method method : ContinuedRatios.class.getDeclaredMethods()) {
            if (method.getName().equals(name)) {
                return method;
            }
        }
        throw new IllegalStateException("no method " + name);
    }

    private static void checkLine(String line) throws ReflectiveOperationException {
        Matcher making = MAKING.matcher(line);
        if (making.matches()) {
            Object[] sizes = numbers(making.group(1));
            x = new ContinuedRatios((Integer) sizes[0], (Integer) sizes[1]);
            return;
        }
        Matcher call = CALL.matcher(line);
        if (!call.matches()) {
            tellWrong("can't be read: " + line);
            return;
        }
        shown.add(call.group(1));
        String answer = String.valueOf(methodNamed(call.group(1)).invoke(x, numbers(call.group(2))));
        if (!answer.equals(call.group(3))) {
            tellWrong(line + " answered " + answer);
        }
    }

    private static void checkShown(String readme) {
        for (Method method : ContinuedRatios.class.getDeclaredMethods()) {
            boolean isFace = Modifier.isPublic(method.getModifiers());
            if (isFace && !shown.contains(method.getName()) && !readme.contains("`" + method.getName() + "`")) {
                tellWrong("does not show " + method.getName());
            }
        }
    }

    public static void main(String[] args) throws IOException, ReflectiveOperationException {
        String readme = Files.readString(Path.of("README.md"));
        String[] blocks = readme.split("```");
        boolean inCode = false;
        for (String block : blocks) {
            if (inCode) {
                String[] lines = block.split("\n");
                // The first line is the language's name.
                for (int i = 1; i < lines.length; i++) {
                    checkLine(lines[i]);
                }
            }
            inCode = !inCode;
        }
        checkShown(readme);
        System.out.println(wrong == 0 ? "README.md tells what is so" : wrong + " faults in README.md");
        if (wrong != 0) {
            System.exit(1);
        }
    }
}
