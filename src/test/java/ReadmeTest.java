import java.io.IOException;
import java.lang.reflect.Method;
import java.lang.reflect.Modifier;
import java.nio.file.Files;
import java.nio.file.Path;
import java.util.Set;
import java.util.TreeSet;
import java.util.regex.Matcher;
import java.util.regex.Pattern;

/** The calls that README.md shows answer what it says, and it shows each call of the face. */
final class ReadmeTest {
    private static final Pattern NEW = Pattern.compile("FrameForge forge = new FrameForge\\(\\);.*");
    private static final Pattern CALL = Pattern.compile("forge\\.(\\w+)\\(([^)]*)\\); *// (true|false|-?\\d+)(:.*)?");
    private static final Due due = new Due();
    private static final Set<String> shown = new TreeSet<>();

    public static void main(String[] args) throws Exception {
        String readme = Files.readString(Path.of("README.md"));
        Matcher block = Pattern.compile("```java\n(.*?)```", Pattern.DOTALL).matcher(readme);
        while (block.find()) {
            follow(block.group(1).split("\n"));
        }
        for (Method method : FrameForge.class.getDeclaredMethods()) {
            if (Modifier.isPublic(method.getModifiers())) {
                due.yes("README.md shows " + method.getName(), shown.contains(method.getName()));
                due.yes("README.md lists " + method.getName(), readme.contains("| `" + method.getName() + "("));
            }
        }
        due.end();
    }

    private static void follow(String[] lines) throws Exception {
        FrameForge forge = null;
        for (String line : lines) {
            Matcher call = CALL.matcher(line);
            if (NEW.matcher(line).matches()) {
                forge = new FrameForge();
            } else if (call.matches()) {
                String answer = answer(forge, call.group(1), call.group(2));
                due.yes(line + " answered " + answer, answer.equals(call.group(3)));
                shown.add(call.group(1));
            } else {
                throw new IOException("not a call with its answer: " + line);
            }
        }
    }

    private static String answer(FrameForge forge, String name, String arguments) throws Exception {
        for (Method method : FrameForge.class.getDeclaredMethods()) {
            if (method.getName().equals(name)) {
                return String.valueOf(method.invoke(forge, values(arguments)));
            }
        }
        throw new IOException("no such call: " + name);
    }

    private static Object[] values(String arguments) {
        if (arguments.isEmpty()) {
            return new Object[0];
        }
        String[] words = arguments.split(", ");
        Object[] values = new Object[words.length];
        for (int i = 0; i < words.length; i++) {
            if (words[i].equals("true") || words[i].equals("false")) {
                values[i] = Boolean.valueOf(words[i]);
            } else {
                values[i] = Integer.valueOf(words[i]);
            }
        }
        return values;
    }
}
