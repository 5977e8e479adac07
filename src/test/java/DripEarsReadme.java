import java.io.IOException;
import java.lang.reflect.InvocationTargetException;
import java.lang.reflect.Method;
import java.lang.reflect.Modifier;
import java.nio.file.Files;
import java.nio.file.Path;
import java.util.regex.Matcher;
import java.util.regex.Pattern;

/** README.md: each answer that its example tells behind a call is the one the call gives, and each call is named. */
public final class DripEarsReadme {
    private static final Pattern EXAMPLE = Pattern.compile("(?s)```java\n(.*?)```");
    private static final Pattern TEXT = Pattern.compile("\"(E[^\"]*)\"\\.toCharArray");
    private static final Pattern CALL = Pattern.compile("(?m)^ears\\.(\\w+)\\((.*?)\\); *// (-?\\d+)\\b");
    private static int wrong = 0;
    private static int told = 0;

    public static void main(String[] args) throws IOException, IllegalAccessException, InvocationTargetException {
        String readme = Files.readString(Path.of("README.md"));
        namesEachCall(readme);
        Matcher example = EXAMPLE.matcher(readme);
        due("an example", example.find() ? 1 : 0, 1);
        if (wrong == 0) {
            play(example.group(1));
        }
        System.out.println(wrong == 0 ? told + " calls of the README answer as it tells" : wrong + " are not as the README tells");
        if (wrong != 0) {
            System.exit(1);
        }
    }

    private static void due(String what, long got, long want) {
        if (got != want) {
            wrong++;
            System.out.println("README.md: " + what + " is " + got + ", told is " + want);
        }
    }

    private static void namesEachCall(String readme) {
        for (Method method : DripEars.class.getDeclaredMethods()) {
            if (Modifier.isPublic(method.getModifiers())) {
                due("a row for " + method.getName(), readme.contains("`" + method.getName() + "`") ? 1 : 0, 1);
            }
        }
    }

    private static void play(String example) throws IllegalAccessException, InvocationTargetException {
        DripEars ears = new DripEars();
        Matcher text = TEXT.matcher(example);
        due("a text", text.find() ? 1 : 0, 1);
        for (char letter : text.group(1).toCharArray()) {
            ears.write(letter);
        }
        Matcher call = CALL.matcher(example);
        while (call.find()) {
            String words = call.group(1) + "(" + call.group(2) + ")";
            due(words, answer(ears, call.group(1), call.group(2)), Long.parseLong(call.group(3)));
            told++;
        }
        long lines = example.lines().filter(line -> line.startsWith("ears.")).count();
        due("calls with an answer", told, lines);
    }

    private static long answer(DripEars ears, String name, String given) throws IllegalAccessException, InvocationTargetException {
        String[] parts = given.isEmpty() ? new String[0] : given.split(", ");
        for (Method method : DripEars.class.getMethods()) {
            if (method.getName().equals(name) && method.getDeclaringClass() == DripEars.class) {
                Object[] numbers = new Object[parts.length];
                for (int i = 0; i < parts.length; i++) {
                    numbers[i] = number(method.getParameterTypes()[i], parts[i]);
                }
                return ((Number) method.invoke(ears, numbers)).longValue();
            }
        }
        throw new IllegalStateException("there is no call " + name);
    }

    private static Object number(Class<?> type, String word) {
        if (type == boolean.class) {
            return Boolean.valueOf(word);
        }
        if (type == long.class) {
            return Long.valueOf(word);
        }
        return Integer.valueOf(word);
    }
}
