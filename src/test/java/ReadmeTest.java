import java.io.File;
import java.io.IOException;
import java.lang.reflect.Method;
import java.lang.reflect.Modifier;
import java.nio.file.Files;
import java.nio.file.Path;
import java.util.ArrayList;
import java.util.List;
import java.util.Set;
import java.util.TreeSet;
import java.util.regex.Matcher;
import java.util.regex.Pattern;

/** What README.md says of the class is so. It is read from the directory that .ci/run goes to. */
public final class ReadmeTest extends Check {
    private static final String NEW_OBJECT = "ViewChooser x = new ViewChooser();";
    private static final Pattern SHOWN_CALL = Pattern.compile(
        "x\\.(\\w+)\\(([-0-9, ]*)\\); +// (throws \\w+|-?[0-9]+|true|false)(: .+)?");

    private static String wholeText() throws IOException {
        return Files.readString(Path.of("README.md"));
    }

    /** The lines of all blocks of Java, in their order. */
    private static List<String> shownLines() throws IOException {
        List<String> lines = new ArrayList<>();
        Matcher block = Pattern.compile("(?ms)^```java\\n(.*?)^```$").matcher(wholeText());
        while (block.find()) {
            lines.addAll(block.group(1).lines().toList());
        }
        return lines;
    }

    private static int[] callOf(Matcher shown) {
        String arguments = shown.group(2).trim();
        String[] parts = arguments.isEmpty() ? new String[0] : arguments.split(", *");
        int[] call = new int[parts.length + 1];
        call[0] = Calls.methodNamed(shown.group(1));
        for (int i = 0; i < parts.length; i++) {
            call[i + 1] = Integer.parseInt(parts[i]);
        }
        return call;
    }

    /** As README.md writes an answer: a boolean by its name, an exception behind 'throws '. */
    private static String written(int[] call, String answer) {
        if (call[0] == Calls.IS_ABOVE && !answer.startsWith("throws.")) {
            return answer.equals("1") ? "true" : "false";
        }
        return answer.replace("throws.", "throws ");
    }

    private static void readmeExampleAnswersWhatItSays() throws IOException {
        ViewChooser x = null;
        for (String line : shownLines()) {
            if (line.equals(NEW_OBJECT)) {
                x = new ViewChooser();
                continue;
            }
            Matcher shown = SHOWN_CALL.matcher(line);
            boolean readable = x != null && shown.matches() && Calls.methodNamed(shown.group(1)) >= 0;
            due("a call with its answer: " + line, readable, true);
            if (readable) {
                int[] call = callOf(shown);
                due(line, written(call, Calls.answer(x, call)), shown.group(3));
            }
        }
    }

    private static void readmeExampleShowsEveryMethod() throws IOException {
        Set<String> shown = new TreeSet<>();
        for (String line : shownLines()) {
            Matcher call = SHOWN_CALL.matcher(line);
            if (call.matches()) {
                shown.add(call.group(1));
            }
        }
        for (int method = 0; method < Calls.methods(); method++) {
            due(Calls.nameOf(method) + " is shown", shown.contains(Calls.nameOf(method)), true);
        }
    }

    /** What README.md says behind a method, up to the next one; empty if it does not name it. */
    private static String saidOf(Method method) throws IOException {
        StringBuilder head = new StringBuilder("- `" + method.getReturnType() + " " + method.getName() + "\\(");
        for (int i = 0; i < method.getParameterCount(); i++) {
            head.append(i > 0 ? ", " : "").append("int \\w+");
        }
        Matcher said = Pattern.compile("(?ms)^" + head + "\\)`: (.+?)(?=^- |^$)").matcher(wholeText());
        return said.find() ? said.group(1).replaceAll("\\s+", " ") : "";
    }

    private static boolean throwsOne(Method method, Class<?> exception) {
        return List.of(method.getExceptionTypes()).contains(exception);
    }

    private static void readmeSaysOfEachMethodWhatItThrows() throws IOException {
        for (Method method : ViewChooser.class.getDeclaredMethods()) {
            if (!Modifier.isPublic(method.getModifiers())) {
                continue;
            }
            String name = method.getName();
            String said = saidOf(method);
            due(name + " is told of", said.isEmpty(), false);
            due(name + ": illegal argument is told of", said.contains("llegal argument"),
                throwsOne(method, IllegalArgumentException.class));
            due(name + ": illegal state is told of", said.contains("llegal state"),
                throwsOne(method, IllegalStateException.class));
        }
    }

    private static void readmeNamesEveryTest() throws IOException {
        String readme = wholeText();
        File[] files = new File("src/test/java").listFiles();
        due("there are tests", files != null && files.length > 0, true);
        for (File file : files == null ? new File[0] : files) {
            String name = file.getName().replace(".java", "");
            due(name + " is named", readme.contains("`" + name + "`"), true);
        }
    }

    public static void main(String[] args) {
        runAll(ReadmeTest.class);
    }
}
