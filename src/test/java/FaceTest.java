import java.io.IOException;
import java.lang.reflect.Constructor;
import java.lang.reflect.Field;
import java.lang.reflect.Method;
import java.lang.reflect.Modifier;
import java.nio.file.Files;
import java.nio.file.Path;
import java.util.ArrayList;
import java.util.Collections;
import java.util.List;
import java.util.Set;
import java.util.TreeSet;
import java.util.regex.Matcher;
import java.util.regex.Pattern;

/** The face of the class is the document's, and the source keeps to what ../shared/LANGUAGE.md lets be seen by words. */
public final class FaceTest {
    private FaceTest() {
    }

    public static void main(String[] args) throws IOException {
        face();
        privateNames();
        source();
        promisesHaveTests();
        Check.end("FaceTest");
    }

    private static void face() throws IOException {
        List<String> due = new ArrayList<>();
        String doc = Files.readString(Path.of("../shared/DOC.md"));
        Matcher method = Pattern.compile("(?m)^    public (int|long|double) (\\w+)\\((.*)\\)(?: throws (.*))?;$").matcher(doc);
        while (method.find()) {
            String types = method.group(3).replaceAll(" \\w+(, |$)", "$1");
            due.add(method.group(1) + " " + method.group(2) + "(" + types + ") " + method.group(4));
        }
        List<String> got = new ArrayList<>();
        for (Method m : EyeStage.class.getDeclaredMethods()) {
            if (!Modifier.isPrivate(m.getModifiers())) {
                List<String> types = new ArrayList<>();
                for (Class<?> c : m.getParameterTypes()) {
                    types.add(c.getSimpleName());
                }
                List<String> thrown = new ArrayList<>();
                for (Class<?> c : m.getExceptionTypes()) {
                    thrown.add(c.getSimpleName());
                }
                got.add(m.getReturnType() + " " + m.getName() + "(" + String.join(", ", types) + ") "
                        + (thrown.isEmpty() ? null : String.join(", ", thrown)));
            }
        }
        Collections.sort(due);
        Collections.sort(got);
        Check.same("methods of the document", due.size(), 30);
        if (!got.equals(due)) {
            Check.tell("the face is " + got + ", due is " + due);
        }
        for (Field f : EyeStage.class.getDeclaredFields()) {
            boolean open = !Modifier.isPrivate(f.getModifiers());
            Check.same("field " + f.getName(), open ? 1 : 0, f.getName().equals("NONE") ? 1 : 0);
        }
        Constructor<?>[] constructors = EyeStage.class.getDeclaredConstructors();
        Check.same("constructors", constructors.length, 1);
        Check.same("public final class", EyeStage.class.getModifiers(), Modifier.PUBLIC | Modifier.FINAL);
    }

    private static void privateNames() {
        Set<String> open = new TreeSet<>();
        for (Method m : EyeStage.class.getDeclaredMethods()) {
            if (Modifier.isPublic(m.getModifiers())) {
                open.add(m.getName());
            }
        }
        List<Class<?>> all = new ArrayList<>(List.of(EyeStage.class.getDeclaredClasses()));
        all.add(EyeStage.class);
        for (Class<?> c : all) {
            for (Method m : c.getDeclaredMethods()) {
                if (!Modifier.isPublic(m.getModifiers()) && open.contains(m.getName())) {
                    Check.tell(c.getName() + "." + m.getName() + " bears the name of a public method");
                }
            }
            Check.same("classes inside " + c.getName(), c == EyeStage.class || c.getDeclaredClasses().length == 0 ? 1 : 0, 1);
            Check.same("parameters in " + c.getName(), mostParameters(c) <= 7 ? 1 : 0, 1);
        }
    }

    private static int mostParameters(Class<?> c) {
        int most = 0;
        for (Method m : c.getDeclaredMethods()) {
            most = Math.max(most, m.getParameterCount());
        }
        return most;
    }

    private static void source() throws IOException {
        String source = Files.readString(Path.of("src/main/java/EyeStage.java"));
        for (String word : new String[] {"import ", "package ", "->", "::", "catch", "finally", "synchronized",
            "assert ", "instanceof", "Exact(", "System.out", "System.nanoTime", "Random", "\" + ", " + \""}) {
            Check.same("'" + word + "' in the source", source.contains(word) ? 1 : 0, 0);
        }
        for (char c : source.toCharArray()) {
            if (c > 126 || c < 32 && c != '\n') {
                Check.tell("the source holds the sign " + (int) c);
            }
        }
    }

    private static void promisesHaveTests() throws IOException {
        Set<String> tested = new TreeSet<>();
        for (Class<?> tests : List.of(TreeBoundsTest.class, SettingBoundsTest.class, ImageBoundsTest.class,
                CommandBoundsTest.class)) {
            for (Method test : Check.promiseMethods(tests)) {
                tested.add(test.getName().substring(0, "promise00".length()));
            }
        }
        Matcher promise = Pattern.compile("(?m)^## Promise (\\d+): ").matcher(Files.readString(Path.of("../shared/DOC.md")));
        while (promise.find()) {
            String name = String.format("promise%02d", Integer.parseInt(promise.group(1)));
            if (!tested.remove(name)) {
                Check.tell("no test of the bounds bears the name " + name);
            }
        }
        Check.same("tests of promises that there are not", tested.size(), 0);
    }
}
