import java.io.IOException;
import java.lang.reflect.Method;
import java.lang.reflect.Modifier;
import java.net.URL;
import java.net.URLClassLoader;
import java.nio.file.Files;
import java.nio.file.Path;
import java.util.ArrayList;
import java.util.List;
import java.util.Map;
import java.util.TreeMap;
import java.util.regex.Matcher;
import java.util.regex.Pattern;
import javax.tools.ToolProvider;

/**
 * README.md is as the class is: the calls of its example answer what stands behind them, and its table of refused
 * calls has every call of the face, with answers that the call can give. Run from the checkout's directory.
 */
public final class ReadmeTest {
    private static final Pattern ANSWERED =
        Pattern.compile("(?:int (\\w+) = )?(house\\..*); +// (-?\\d+|true|false)\\b.*");
    private static final Pattern ROW = Pattern.compile("\\| (?:`(\\w+)\\((.*?)\\)` )?\\| .* \\| (.*) \\|");

    public static void main(String[] args) throws IOException, ReflectiveOperationException {
        List<String> page = Files.readAllLines(Path.of("README.md"));
        checkExample(page);
        checkTable(page);
        Checks.end();
    }

    private static void checkExample(List<String> page) throws IOException, ReflectiveOperationException {
        int start = page.indexOf("```java") + 1;
        int length = page.subList(start, page.size()).indexOf("```");
        List<String> source = new ArrayList<>();
        List<String> calls = new ArrayList<>();
        List<String> due = new ArrayList<>();
        source.add("public final class Example { public static void run(java.util.List<String> answers) {");
        for (String line : page.subList(start, start + length)) {
            Matcher call = ANSWERED.matcher(line);
            boolean answered = call.matches();
            Checks.due("an answer stands behind: " + line, answered, line.contains("house."));
            source.add(answered ? answering(call.group(1), call.group(2)) : line);
            if (answered) {
                calls.add(call.group(2));
                due.add(call.group(3));
            }
        }
        source.add("} }");
        List<String> answers = answersOf(source);
        for (int i = 0; i < calls.size(); i++) {
            Checks.tell(calls.get(i), answers.get(i), due.get(i));
        }
    }

    private static String answering(String name, String call) {
        return name == null ? "answers.add(\"\" + (" + call + "));"
            : "int " + name + " = " + call + "; answers.add(\"\" + " + name + ");";
    }

    private static List<String> answersOf(List<String> source) throws IOException, ReflectiveOperationException {
        Path directory = Files.createTempDirectory("readme");
        Path file = directory.resolve("Example.java");
        Path made = directory.resolve("Example.class");
        List<String> answers = new ArrayList<>();
        try {
            Files.write(file, source);
            int failed = ToolProvider.getSystemJavaCompiler().run(null, null, null,
                "-cp", System.getProperty("java.class.path"), "-d", directory.toString(), file.toString());
            Checks.due("the example compiles", failed, 0);
            try (URLClassLoader classes = new URLClassLoader(new URL[] {directory.toUri().toURL()})) {
                classes.loadClass("Example").getMethod("run", List.class).invoke(null, answers);
            }
        } finally {
            Files.deleteIfExists(file);
            Files.deleteIfExists(made);
            Files.deleteIfExists(directory);
        }
        return answers;
    }

    private static void checkTable(List<String> page) {
        Map<String, Integer> told = new TreeMap<>();
        Map<String, Integer> face = new TreeMap<>();
        Map<String, String> kinds = new TreeMap<>();
        for (Method method : PanelHouse.class.getDeclaredMethods()) {
            if (Modifier.isPublic(method.getModifiers())) {
                face.put(method.getName(), method.getParameterCount());
                kinds.put(method.getName(), refusalOf(method));
            }
        }
        String name = "";
        for (String line : page.subList(page.indexOf("| --- | --- | --- |") + 1, page.size())) {
            Matcher row = ROW.matcher(line);
            if (!row.matches()) {
                break;
            }
            if (row.group(1) != null) {
                name = row.group(1);
                told.put(name, row.group(2).isEmpty() ? 0 : row.group(2).split(", ").length);
            }
            Checks.tell("refusal of " + name + ": " + line, kindOf(row.group(3)), kinds.get(name));
        }
        Checks.tell("calls of the table with how many arguments", told.toString(), face.toString());
    }

    private static String refusalOf(Method method) {
        if (method.getReturnType() == boolean.class) {
            return "`false`";
        }
        return method.getExceptionTypes().length == 0 ? "a number" : "`NoSuchElementException`";
    }

    private static String kindOf(String answer) {
        return answer.equals("`false`") || answer.equals("`NoSuchElementException`") ? answer : "a number";
    }
}
