import java.io.IOException;
import java.lang.reflect.Constructor;
import java.lang.reflect.Field;
import java.lang.reflect.Method;
import java.lang.reflect.Modifier;
import java.nio.file.Files;
import java.nio.file.Path;
import java.util.Arrays;
import java.util.Set;
import java.util.TreeSet;
import java.util.regex.Matcher;
import java.util.regex.Pattern;

/** The face of the document and those rules of LANGUAGE.md that reflection and a look at the source can tell. */
public final class DripEarsLanguage {
    private static final String[] FACE = {
        "int write(int)", "int wipe()", "int fault()", "int lane()", "int house(int, int)", "int saying(int, int)",
        "int hour()", "int lower(int)", "int raise(int)", "int change(int, int)", "int plate(int)", "int undo()",
        "int later(int, int)", "int first(int, int)", "int keeps(int, int, int, int)", "int tells(int, int)",
        "int judge(int, long)", "int hear(int, int, int)", "int unhear()", "int ears(int)", "int share(int, boolean)",
        "int rests(int, int, int)", "int dries(int, int, int, int, boolean)", "long seed(long)", "int years(int)",
        "int keep(int)", "int again(int)", "int count(int)"};
    private static final String FORBIDDEN =
        "\\b(throw|throws|try|catch|synchronized|assert|import|package|protected|native|volatile|transient|var|new Object)\\b"
        + "|->|::|System\\.(?!arraycopy)|Exact\\(";
    private static int wrong = 0;

    private static void due(String what, Object got, Object want) {
        if (!got.equals(want)) {
            wrong++;
            System.out.println(what + ": is " + got + ", due is " + want);
        }
    }

    public static void main(String[] args) throws IOException {
        face();
        nested();
        source();
        System.out.println(wrong == 0 ? "the language is kept to" : wrong + " things are not as the language asks");
        if (wrong != 0) {
            System.exit(1);
        }
    }

    private static void face() {
        Class<?> type = DripEars.class;
        due("modifiers", Modifier.toString(type.getModifiers()), "public final");
        Set<String> methods = new TreeSet<>();
        Set<String> publicNames = new TreeSet<>();
        Set<String> privateNames = new TreeSet<>();
        for (Method method : type.getDeclaredMethods()) {
            if (Modifier.isPrivate(method.getModifiers())) {
                privateNames.add(method.getName());
            } else {
                String parameters = Arrays.toString(method.getParameterTypes()).replace("[", "(").replace("]", ")");
                methods.add(method.getReturnType() + " " + method.getName() + parameters);
                publicNames.add(method.getName());
                due(method.getName(), Modifier.toString(method.getModifiers()), "public");
            }
        }
        due("methods", methods, new TreeSet<>(Arrays.asList(FACE)));
        privateNames.retainAll(publicNames);
        due("private methods with public names", privateNames, new TreeSet<String>());
        Set<String> constants = new TreeSet<>();
        for (Field field : type.getDeclaredFields()) {
            if (!Modifier.isPrivate(field.getModifiers())) {
                constants.add(Modifier.toString(field.getModifiers()) + " " + field.getType() + " " + field.getName());
            }
        }
        String how = "public static final int ";
        due("constants", constants, new TreeSet<>(Set.of(how + "UNKNOWN", how + "OUTSIDE", how + "STATE", how + "FULL", how + "NONE")));
        Constructor<?>[] constructors = type.getDeclaredConstructors();
        due("constructors", constructors.length, 1);
        due("parameters", constructors[0].getParameterCount(), 0);
        due("constructor", Modifier.toString(constructors[0].getModifiers()), "public");
    }

    private static void nested() {
        Class<?>[] types = DripEars.class.getDeclaredClasses();
        due("at most twelve classes", types.length <= 12, true);
        for (Class<?> type : types) {
            due(type + " static", Modifier.isStatic(type.getModifiers()), true);
            due(type + " public", Modifier.isPublic(type.getModifiers()), false);
            fewFields(type);
        }
        fewFields(DripEars.class);
    }

    private static void fewFields(Class<?> type) {
        int fields = 0;
        for (Field field : type.getDeclaredFields()) {
            boolean isStatic = Modifier.isStatic(field.getModifiers());
            fields += isStatic ? 0 : 1;
            due(type + " static and not final: " + field.getName(),
                isStatic && !Modifier.isFinal(field.getModifiers()), false);
        }
        due(type + " at most twenty fields", fields <= 20, true);
        for (Method method : type.getDeclaredMethods()) {
            due(method + " at most seven parameters", method.getParameterCount() <= 7, true);
        }
    }

    private static void source() throws IOException {
        String source = Files.readString(Path.of("src/main/java/DripEars.java"));
        String code = source.replaceAll("(?s)/\\*.*?\\*/", "").replaceAll("//[^\n]*", "");
        Matcher matcher = Pattern.compile(FORBIDDEN).matcher(code);
        while (matcher.find()) {
            due("a word of the source", matcher.group(), "none such");
        }
        Matcher methods = Pattern.compile("(?ms)^((?:    ){1,2})[^ \n][^\n]*\\) \\{$.*?^\\1\\}$").matcher(code);
        while (methods.find()) {
            String method = methods.group();
            due("at most sixty lines: " + method.substring(0, method.indexOf('\n')).trim(), method.split("\n").length <= 60, true);
        }
        for (int i = 0; i < source.length(); i++) {
            if (source.charAt(i) > 126) {
                due("a sign of the source", (int) source.charAt(i), 126);
            }
        }
    }
}
