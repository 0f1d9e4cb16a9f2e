import java.lang.reflect.Method;
import java.lang.reflect.Modifier;
import java.nio.file.Files;
import java.nio.file.Path;
import java.util.ArrayList;
import java.util.HashMap;
import java.util.List;
import java.util.Map;
import java.util.regex.Matcher;
import java.util.regex.Pattern;

/** What README.md shows is so: each call of its examples answers as the words behind it say. */
public final class ReadmeTest {
    private static final Check C = new Check();
    private static final Pattern BLOCK = Pattern.compile("(?s)```java\n(.*?)```");
    private static final Pattern CALL = Pattern.compile("(\\w+)\\.(\\w+)\\(([^()]*)\\);");
    private static final Pattern NUMBERS = Pattern.compile("//\\s*(-?\\d+(?:, -?\\d+)*)");

    private static final Map<String, Method> FACE = new HashMap<>();
    private static final Map<String, RollCutter> OBJECTS = new HashMap<>();

    public static void main(String[] args) throws Exception {
        String page = Files.readString(Path.of("README.md"));
        for (Method m : RollCutter.class.getDeclaredMethods()) {
            if (Modifier.isPublic(m.getModifiers())) {
                FACE.put(m.getName(), m);
            }
        }
        C.part("README.md, the calls");
        for (String name : FACE.keySet()) {
            C.due(name + " is told of", page.contains("`" + name + "`") ? 1 : 0, 1);
        }
        int lines = 0;
        Matcher block = BLOCK.matcher(page);
        while (block.find()) {
            for (String line : block.group(1).split("\n")) {
                C.part("README.md, " + line.trim());
                lines += run(line) ? 1 : 0;
            }
        }
        C.part("README.md");
        C.due("lines with calls were found", lines > 8 ? 1 : 0, 1);
        C.end();
    }

    /** Whether the line had calls; it may make a new object instead. */
    private static boolean run(String line) throws Exception {
        Matcher made = Pattern.compile("RollCutter (\\w+) = new RollCutter\\(\\);").matcher(line);
        if (made.matches()) {
            OBJECTS.put(made.group(1), new RollCutter());
            return false;
        }
        List<Long> answers = new ArrayList<>();
        Matcher call = CALL.matcher(line);
        while (call.find()) {
            Object answer = FACE.get(call.group(2)).invoke(OBJECTS.get(call.group(1)), numbers(call.group(3)));
            answers.add(((Number) answer).longValue());
        }
        List<Long> due = new ArrayList<>();
        Matcher told = NUMBERS.matcher(line);
        if (told.find()) {
            for (String number : told.group(1).split(", ")) {
                due.add(Long.parseLong(number));
            }
        }
        C.due("answers " + answers + ", told are " + due, answers.equals(due) ? 1 : 0, 1);
        return !answers.isEmpty();
    }

    private static Object[] numbers(String text) {
        if (text.isBlank()) {
            return new Object[0];
        }
        String[] parts = text.split(",");
        Object[] numbers = new Object[parts.length];
        for (int k = 0; k < parts.length; k++) {
            String part = parts[k].trim();
            numbers[k] = part.startsWith("'") ? (int) part.charAt(1) : Integer.parseInt(part);
        }
        return numbers;
    }
}
