import java.lang.reflect.Method;
import java.lang.reflect.Modifier;
import java.nio.file.Files;
import java.nio.file.Path;
import java.util.Arrays;
import java.util.regex.Matcher;
import java.util.regex.Pattern;

/** The example of README.md answers what stands behind its calls, and no call of the face is left out there. */
public final class ReadmeTest {
    private static final Pattern EXAMPLE = Pattern.compile("(?s)```java\n(.*?)```");
    private static final Pattern CALL = Pattern.compile("kernel\\.(\\w+)\\(([^)]*)\\); +// (true|false|-?\\d+)\\b.*");
    private static final String MAKING = "CeilingKernel kernel = new CeilingKernel();";

    private ReadmeTest() {
    }

    public static void main(String[] args) throws Exception {
        String page = Files.readString(Path.of("README.md"));
        Matcher example = EXAMPLE.matcher(page);
        Checks.due("there is an example", example.find(), true);
        play(example.group(1).split("\n"));
        for (Method method : CeilingKernel.class.getDeclaredMethods()) {
            if (Modifier.isPublic(method.getModifiers())) {
                String name = method.getName();
                Checks.due("the page names " + name, page.contains("`" + name + "`") || page.contains("`" + name + "("),
                        true);
            }
        }
        Checks.finish("ReadmeTest");
    }

    private static void play(String[] lines) throws ReflectiveOperationException {
        CeilingKernel kernel = null;
        for (String line : lines) {
            Matcher call = CALL.matcher(line);
            if (line.equals(MAKING)) {
                kernel = new CeilingKernel();
            } else if (call.matches()) {
                Checks.same(line, answer(kernel, call.group(1), call.group(2)), call.group(3));
            } else {
                Checks.due("no call, so empty or a comment: " + line, line.isEmpty() || line.startsWith("// "), true);
            }
        }
    }

    private static String answer(CeilingKernel kernel, String name, String arguments)
            throws ReflectiveOperationException {
        Object[] numbers = arguments.isEmpty() ? new Object[0]
                : Arrays.stream(arguments.split(", ")).map(Integer::valueOf).toArray();
        Class<?>[] types = new Class<?>[numbers.length];
        Arrays.fill(types, int.class);
        return CeilingKernel.class.getMethod(name, types).invoke(kernel, numbers).toString();
    }
}
