import java.io.IOException;
import java.lang.reflect.Method;
import java.lang.reflect.Modifier;
import java.nio.file.Files;
import java.nio.file.Path;
import java.util.Arrays;
import java.util.Comparator;

/** Runs the tests of a class, each of which bears the words of the document that it is about. */
final class Sentences {
    private static final Path DOCUMENT = Path.of("..", "shared", "DOC.md");

    private Sentences() {
    }

    static void test(Class<?> tests) throws IOException, ReflectiveOperationException {
        String document = Files.exists(DOCUMENT) ? flat(Files.readString(DOCUMENT)) : "";
        Method[] methods = tests.getDeclaredMethods();
        Arrays.sort(methods, Comparator.comparing(Method::getName));
        for (Method method : methods) {
            Says says = method.getAnnotation(Says.class);
            if (says != null) {
                Checks.begin(tests.getSimpleName() + "." + method.getName());
                checkWords(document, says);
                method.setAccessible(true);
                method.invoke(null);
            } else if (looksLikeTest(method)) {
                // It would never be run, and nobody would see that.
                Checks.due("the words are missing at " + method.getName(), false, true);
            }
        }
        Checks.finish(tests.getSimpleName());
    }

    /** Where the document is not at hand, the tests are run all the same. */
    private static void checkWords(String document, Says says) {
        for (String words : says.value()) {
            boolean there = document.isEmpty() || document.contains(flat(words));
            Checks.due("the document says \"" + words + "\"", there, true);
        }
    }

    private static boolean looksLikeTest(Method method) {
        return Modifier.isPrivate(method.getModifiers()) && method.getReturnType() == void.class
                && method.getParameterCount() == 0 && !method.isSynthetic();
    }

    private static String flat(String text) {
        return text.replaceAll("\\s+", " ");
    }
}
