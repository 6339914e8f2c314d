import java.lang.reflect.Constructor;
import java.lang.reflect.Field;
import java.lang.reflect.Method;
import java.lang.reflect.Modifier;
import java.nio.file.Files;
import java.nio.file.Path;
import java.util.Arrays;
import java.util.Set;
import java.util.TreeSet;
import java.util.regex.Matcher;
import java.util.regex.Pattern;

/** The document's face, and the rules of LANGUAGE.md that can be seen without reading. */
public final class FaceTest {
    private static final String[] FACE = {
        "int task(int,int,int)", "boolean code(int,int,int,int,int)", "boolean wipe(int)", "int admit()",
        "int place()", "int wcet(int)", "int section(int,int)", "int blocking(int)", "int response(int)",
        "int ceiling(int)", "boolean start()", "boolean halt()", "boolean signal(int)", "boolean input(int,int)",
        "int run(int)", "int state(int)", "int job(int,int)", "int worst(int)", "int word(int,int)",
        "int entry(int,int)"};
    private static final String[] RULED_OUT = {
        "\\bthrow\\b", "\\btry\\b", "\\bcatch\\b", "\\bsynchronized\\b", "\\bassert\\b", "::", "->",
        "\\bpackage\\b", "\\bprotected\\b", "\\bSystem\\.(?!arraycopy)", "\\bThread\\b", "\\bRandom\\b",
        "\\bjava\\.(?!util\\.Arrays;)", "\\bnew \\w+\\([^)]*\\) \\{", "Exact\\b"};

    private FaceTest() {
    }

    public static void main(String[] args) throws Exception {
        Class<?> type = CeilingKernel.class;
        Checks.due("public and final", type.getModifiers(), Modifier.PUBLIC | Modifier.FINAL);
        checkMethods(type);
        checkConstructors(type);
        for (Field field : type.getDeclaredFields()) {
            Checks.due("private: " + field, Modifier.isPrivate(field.getModifiers()), true);
        }
        checkClassesInside(type);
        checkSource(Files.readString(Path.of("src/main/java/CeilingKernel.java")));
        Checks.finish("FaceTest");
    }

    private static void checkMethods(Class<?> type) {
        Set<String> open = new TreeSet<>();
        Set<String> openNames = new TreeSet<>();
        for (Method method : type.getDeclaredMethods()) {
            if (!Modifier.isPrivate(method.getModifiers())) {
                Checks.due("plainly public: " + method, method.getModifiers(), Modifier.PUBLIC);
                open.add(signature(method));
                openNames.add(method.getName());
            }
        }
        for (String wanted : FACE) {
            Checks.due("has " + wanted, open.remove(wanted), true);
        }
        Checks.due("methods beyond the face: " + open, open.size(), 0);
        for (Method method : type.getDeclaredMethods()) {
            boolean hides = Modifier.isPrivate(method.getModifiers()) && openNames.contains(method.getName());
            Checks.due("private with a public name: " + method, hides, false);
        }
    }

    private static String signature(Method method) {
        StringBuilder text = new StringBuilder();
        for (Class<?> parameter : method.getParameterTypes()) {
            text.append(text.length() == 0 ? "" : ",").append(parameter.getName());
        }
        return method.getReturnType().getName() + " " + method.getName() + "(" + text + ")";
    }

    private static void checkConstructors(Class<?> type) {
        Constructor<?>[] all = type.getDeclaredConstructors();
        Checks.due("constructors", all.length, 1);
        Checks.due("public constructor", all[0].getModifiers(), Modifier.PUBLIC);
        Checks.due("its parameters", all[0].getParameterCount(), 0);
    }

    private static void checkClassesInside(Class<?> type) {
        Checks.due("some twelve classes", type.getDeclaredClasses().length <= 11, true);
        for (Class<?> inside : type.getDeclaredClasses()) {
            int modifiers = inside.getModifiers();
            Checks.due("static: " + inside, Modifier.isStatic(modifiers), true);
            Checks.due("hidden: " + inside, Modifier.isPublic(modifiers) || Modifier.isProtected(modifiers), false);
            int fields = 0;
            for (Field field : inside.getDeclaredFields()) {
                boolean isStatic = Modifier.isStatic(field.getModifiers());
                Checks.due("static and not final: " + field, isStatic && !Modifier.isFinal(field.getModifiers()),
                        false);
                fields += isStatic ? 0 : 1;
            }
            Checks.due("some twenty fields: " + inside, fields <= 20, true);
            for (Method method : inside.getDeclaredMethods()) {
                Checks.due("with a public name: " + method, isOfTheFace(method.getName()), false);
                Checks.due("at most seven parameters: " + method, method.getParameterCount() <= 7, true);
            }
        }
    }

    private static boolean isOfTheFace(String name) {
        return Arrays.stream(FACE).anyMatch(wanted -> wanted.contains(" " + name + "("));
    }

    private static void checkSource(String source) {
        String bare = source.replaceAll("(?s)/\\*.*?\\*/", "").replaceAll("//[^\n]*", "");
        for (String pattern : RULED_OUT) {
            Matcher matcher = Pattern.compile(pattern).matcher(bare);
            Checks.due("the source has no " + pattern, matcher.find(), false);
        }
    }
}
