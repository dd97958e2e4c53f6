import java.lang.reflect.InvocationTargetException;
import java.lang.reflect.Method;
import java.lang.reflect.Modifier;
import java.nio.file.Files;
import java.nio.file.Path;
import java.util.List;
import java.util.regex.Matcher;
import java.util.regex.Pattern;

/** Makes the calls of the example in README.md, so that what it says of the answers stays true. */
public final class ReadmeTest {
    private static final Pattern CALL = Pattern.compile("bench\\.(\\w+)\\(([^)]*)\\);");
    private static final Pattern ANSWER = Pattern.compile("// ([-\\w]+)");
    private static int wrong = 0;

    public static void main(String[] args) throws Exception {
        List<String> lines = Files.readAllLines(Path.of("README.md"));
        CloudBench bench = new CloudBench();
        int answers = 0;
        for (String line : example(lines)) {
            String got = lastAnswer(bench, line);
            Matcher want = ANSWER.matcher(line);
            if (want.find()) {
                answers++;
                due(line, got, want.group(1));
            }
        }
        if (answers < 20) {
            wrong++;
            System.out.println("the example tells only " + answers + " answers");
        }
        everyCallIsNamed(lines);
        System.out.println(wrong == 0 ? "the example in README.md is as due" : wrong + " answers are not as due");
        if (wrong != 0) {
            System.exit(1);
        }
    }

    private static void due(String call, String got, String want) {
        if (!want.equals(got)) {
            wrong++;
            System.out.println(call + " answered " + got);
        }
    }

    private static List<String> example(List<String> lines) {
        List<String> rest = lines.subList(lines.indexOf("```java") + 1, lines.size());
        return rest.subList(0, Math.max(0, rest.indexOf("```")));
    }

    private static String lastAnswer(CloudBench bench, String line) throws ReflectiveOperationException {
        String answer = "";
        Matcher call = CALL.matcher(line);
        while (call.find()) {
            answer = String.valueOf(make(bench, call.group(1), call.group(2)));
        }
        return answer;
    }

    private static Object make(CloudBench bench, String name, String list) throws ReflectiveOperationException {
        String[] parts = list.isEmpty() ? new String[0] : list.split(", ");
        Object[] values = new Object[parts.length];
        Class<?>[] types = new Class<?>[parts.length];
        for (int i = 0; i < parts.length; i++) {
            values[i] = Integer.parseInt(parts[i]);
            types[i] = int.class;
        }
        try {
            return CloudBench.class.getMethod(name, types).invoke(bench, values);
        } catch (InvocationTargetException e) {
            return e.getCause();
        }
    }

    private static void everyCallIsNamed(List<String> lines) {
        String text = String.join("\n", lines);
        for (Method method : CloudBench.class.getDeclaredMethods()) {
            boolean isNamed = text.contains("`" + method.getName() + "`");
            if (Modifier.isPublic(method.getModifiers()) && !isNamed) {
                wrong++;
                System.out.println("README.md does not name " + method.getName());
            }
        }
    }
}
