import java.io.IOException;
import java.lang.reflect.InvocationTargetException;
import java.lang.reflect.Method;
import java.lang.reflect.Modifier;
import java.nio.file.Files;
import java.nio.file.Path;
import java.util.HashMap;
import java.util.Map;
import java.util.regex.Matcher;
import java.util.regex.Pattern;

/** The session in README.md, line by line: each call must give what stands behind it. */
public final class ReadmeTest {
    private static final Pattern CALL =
            Pattern.compile("(?:int (\\w+) = )?stage\\.(\\w+)\\((.*)\\);\\s+// (throws )?(\\S+)");
    private static final Pattern TYPING =
            Pattern.compile("for \\(char c : \"(.*)\"\\.toCharArray\\(\\)\\) stage\\.type\\(c\\);");

    private final Map<String, Object> named = new HashMap<>();
    private EyeStage stage;
    private int calls;

    private ReadmeTest() {
    }

    public static void main(String[] args) throws IOException, IllegalAccessException {
        String readme = Files.readString(Path.of("README.md"));
        new ReadmeTest().session(readme);
        everyCallIsNamed(readme);
        Check.end("ReadmeTest");
    }

    private void session(String readme) throws IllegalAccessException {
        named.put("EyeStage.NONE", EyeStage.NONE);
        for (String line : readme.split("\n")) {
            if (line.equals("    EyeStage stage = new EyeStage();")) {
                stage = new EyeStage();
            } else if (line.startsWith("    ") && line.contains("stage.")) {
                step(line.trim());
            }
        }
        Check.same("calls of the session", calls > 40 ? 1 : 0, 1);
    }

    private void step(String line) throws IllegalAccessException {
        Matcher typing = TYPING.matcher(line);
        Matcher call = CALL.matcher(line);
        if (typing.matches()) {
            for (char c : typing.group(1).toCharArray()) {
                stage.type(c);
            }
        } else if (call.matches()) {
            calls++;
            Object got = answer(call.group(2), call.group(3));
            if (!got.toString().equals(call.group(5))) {
                Check.tell(line + " gave " + got);
            }
            named.put(call.group(1), got);
        } else {
            Check.tell("no call and no answer: " + line);
        }
    }

    private Object answer(String name, String arguments) throws IllegalAccessException {
        String[] parts = arguments.isEmpty() ? new String[0] : arguments.split(", ");
        Object[] values = new Object[parts.length];
        for (int n = 0; n < parts.length; n++) {
            values[n] = value(parts[n]);
        }
        for (Method method : EyeStage.class.getMethods()) {
            if (method.getName().equals(name)) {
                try {
                    return method.invoke(stage, values);
                } catch (InvocationTargetException e) {
                    return e.getCause().getClass().getSimpleName();
                }
            }
        }
        return "no such call";
    }

    private Object value(String written) {
        if (named.containsKey(written)) {
            return named.get(written);
        }
        if (written.startsWith("'")) {
            return (int) written.charAt(1);
        }
        return written.equals("true") || written.equals("false")
                ? (Object) Boolean.valueOf(written) : Integer.valueOf(written);
    }

    private static void everyCallIsNamed(String readme) {
        for (Method method : EyeStage.class.getDeclaredMethods()) {
            if (Modifier.isPublic(method.getModifiers()) && !readme.contains("`" + method.getName() + "`")) {
                Check.tell("README.md does not name `" + method.getName() + "`");
            }
        }
    }
}
