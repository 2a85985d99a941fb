import java.io.IOException;
import java.lang.reflect.Method;
import java.nio.file.Files;
import java.nio.file.Path;
import java.util.List;
import java.util.regex.Matcher;
import java.util.regex.Pattern;

/** The example of README.md: each call there is asked, and must answer what stands behind it. */
public final class ReadmeTest {
    private static final Pattern NEW = Pattern.compile("StepHeap heap = new StepHeap\\((\\d+), (\\d+)\\);.*");
    private static final Pattern CALL = Pattern.compile("heap\\.(\\w+)\\((.*)\\); +// ([\\w.]+).*");
    private static final int LEAST_CALLS = 10;

    private StepHeap heap = null;
    private int calls = 0;

    public static void main(String[] args) throws IOException, ReflectiveOperationException {
        new ReadmeTest().run(Files.readAllLines(Path.of("README.md")));
        Check.end();
    }

    private void run(List<String> lines) throws ReflectiveOperationException {
        boolean isExample = false;
        for (String line : lines) {
            if (line.startsWith("```")) {
                isExample = line.equals("```java");
            } else if (isExample) {
                runLine(line);
            }
        }
        Check.due("README.md has an example", calls >= LEAST_CALLS, true);
    }

    private void runLine(String line) throws ReflectiveOperationException {
        Matcher made = NEW.matcher(line);
        Matcher call = CALL.matcher(line);
        if (made.matches()) {
            heap = new StepHeap(Integer.parseInt(made.group(1)), Integer.parseInt(made.group(2)));
        } else if (heap != null && call.matches()) {
            calls++;
            String answer = ask(call.group(1), call.group(2));
            Check.due("README.md: " + line + " (it was " + answer + ")", answer.equals(due(call.group(3))), true);
        } else {
            Check.due("README.md: " + line + " can be asked", false, true);
        }
    }

    private static String due(String written) {
        switch (written) {
            case "NONE":
                return String.valueOf(StepHeap.NONE);
            case "Long.MIN_VALUE":
                return String.valueOf(Long.MIN_VALUE);
            default:
                return written.replaceAll("\\.$", "");
        }
    }

    private String ask(String name, String arguments) throws ReflectiveOperationException {
        String[] texts = arguments.isEmpty() ? new String[0] : arguments.split(", ");
        for (Method method : StepHeap.class.getMethods()) {
            if (method.getName().equals(name) && method.getParameterCount() == texts.length) {
                return String.valueOf(method.invoke(heap, values(texts, method.getParameterTypes())));
            }
        }
        return "no such call";
    }

    private static Object[] values(String[] texts, Class<?>[] types) {
        Object[] values = new Object[texts.length];
        for (int i = 0; i < texts.length; i++) {
            boolean isBoolean = types[i] == boolean.class;
            values[i] = isBoolean ? (Object) Boolean.valueOf(texts[i]) : (Object) Integer.valueOf(texts[i]);
        }
        return values;
    }
}
