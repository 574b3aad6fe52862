import java.lang.reflect.Field;
import java.lang.reflect.Method;
import java.lang.reflect.Modifier;
import java.nio.file.Files;
import java.nio.file.Path;
import java.util.ArrayList;
import java.util.List;
import java.util.Set;
import java.util.regex.Matcher;
import java.util.regex.Pattern;

/** What can be seen of the rules of LANGUAGE.md in the source and in the compiled class. */
final class LanguageTest {
    private static final Path SOURCE = Path.of("src/main/java/FrameForge.java");
    private static final Set<String> LIBRARY = Set.of("Math.max", "Math.min", "System.arraycopy");
    private static final Set<Class<?>> CONSTANTS = Set.of(int.class, int[].class);
    private static final Pattern HEADER = Pattern.compile("( {4}| {8})(?!.*\\bclass\\b|for |if |while |switch |})\\S.*\\(.*\\) \\{");
    private static final Pattern CONSTRUCTOR = Pattern.compile(" *(public )?[A-Z]\\w*\\(.*");
    private static final Due due = new Due();

    public static void main(String[] args) throws Exception {
        List<Class<?>> classes = new ArrayList<>(List.of(FrameForge.class.getDeclaredClasses()));
        due.yes("at most twelve classes", classes.size() < 12);
        classes.add(FrameForge.class);
        int compiled = 0;
        for (Class<?> one : classes) {
            fields(one);
            parameters(one);
            compiled += one.getDeclaredMethods().length;
        }
        List<String> lines = Files.readAllLines(SOURCE);
        words(String.join("\n", lines));
        methods(lines, compiled);
        due.end();
    }

    private static void fields(Class<?> one) {
        int own = 0;
        for (Field field : one.getDeclaredFields()) {
            if (!Modifier.isStatic(field.getModifiers())) {
                own++;
            } else {
                due.yes("rule 5: " + field + " is final", Modifier.isFinal(field.getModifiers()));
                due.yes("rule 5: " + field + " is a constant", CONSTANTS.contains(field.getType()));
            }
        }
        due.yes("rule 11: " + own + " fields of " + one, own <= 20);
    }

    private static void parameters(Class<?> one) {
        for (Method method : one.getDeclaredMethods()) {
            due.yes("rule 11: " + method, method.getParameterCount() <= 7);
        }
    }

    private static void words(String text) {
        due.yes("plain characters", text.chars().allMatch(one -> one == '\n' || one >= ' ' && one <= '~'));
        String code = text.replaceAll("(?s)/\\*.*?\\*/", " ").replaceAll("//[^\n]*", " ");
        for (String word : List.of("import", "package", "throw", "throws", "try", "catch", "finally", "synchronized", "assert",
            "instanceof", "Object", "String", "double", "float", "protected", "native", "volatile")) {
            due.no("the source has " + word, Pattern.compile("\\b" + word + "\\b").matcher(code).find());
        }
        for (String sign : List.of("->", "::", "static {", "@", "\"", " / ", " % ")) {
            boolean reckons = sign.equals(" / ");
            due.is("how often the source has " + sign, reckons ? 1 : 0, code.split(Pattern.quote(sign), -1).length - 1);
        }
        Matcher library = Pattern.compile("\\b[A-Z][a-z]\\w*\\.\\w+").matcher(code);
        while (library.find()) {
            due.yes("rule 4: " + library.group(), LIBRARY.contains(library.group()));
        }
    }

    /** Methods are short, and none makes an object: all rows are made by constructors. */
    private static void methods(List<String> lines, int compiled) {
        int found = 0;
        for (int i = 0; i < lines.size(); i++) {
            Matcher header = HEADER.matcher(lines.get(i));
            if (!header.matches()) {
                continue;
            }
            found++;
            int end = i + lines.subList(i, lines.size()).indexOf(header.group(1) + "}");
            due.yes("rule 11: " + (end - i + 1) + " lines of " + lines.get(i), end > i && end - i < 60);
            String body = String.join("\n", lines.subList(i, end + 1));
            boolean makes = body.contains("new ") || body.contains(".clone(");
            due.yes("rule 12: made by " + lines.get(i), !makes || CONSTRUCTOR.matcher(lines.get(i)).matches());
        }
        due.yes(found + " methods are found in the source", found >= compiled);
    }
}
