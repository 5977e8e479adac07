import java.io.IOException;
import java.lang.reflect.Constructor;
import java.lang.reflect.Field;
import java.lang.reflect.Method;
import java.lang.reflect.Modifier;
import java.nio.file.Files;
import java.nio.file.Path;
import java.util.Arrays;
import java.util.Set;
import java.util.TreeSet;
import java.util.regex.Matcher;
import java.util.regex.Pattern;

/** The face is the document's, and the source keeps to those rules of LANGUAGE.md that a reader by rule can see. */
public final class DripEarsLanguage {
    private static final Path SOURCE = Path.of("src/main/java/DripEars.java");
    private static final Path DOCUMENT = Path.of("../shared/DOC.md");
    private static final Pattern FACE = Pattern.compile("(?s)```java\n(.*?)```");
    private static final Pattern METHOD = Pattern.compile("public (\\w+ \\w+)\\((.*?)\\);");
    private static final Pattern CONSTANT = Pattern.compile("(\\w+) = (-\\d+)");
    private static int wrong = 0;

    private static void due(String what, Object got, Object want) {
        if (!got.equals(want)) {
            wrong++;
            System.out.println(what + ": is " + got + ", due is " + want);
        }
    }

    public static void main(String[] args) throws IOException, IllegalAccessException {
        Matcher face = FACE.matcher(Files.readString(DOCUMENT));
        due("a face in the document", face.find(), true);
        methods(face.group(1));
        constants(face.group(1));
        constructor();
        nested();
        for (String broken : SourceRules.brokenIn(SOURCE)) {
            due("a rule", broken, "kept");
        }
        signs();
        System.out.println(wrong == 0 ? "the language is kept to" : wrong + " things are not as the language asks");
        if (wrong != 0) {
            System.exit(1);
        }
    }

    private static void methods(String face) {
        Set<String> told = new TreeSet<>();
        Matcher matcher = METHOD.matcher(face);
        while (matcher.find()) {
            told.add(matcher.group(1) + "(" + matcher.group(2).replaceAll("(\\w+) \\w+", "$1") + ")");
        }
        due("methods of the document", told.size(), 28);
        Set<String> methods = new TreeSet<>();
        Set<String> publicNames = new TreeSet<>();
        Set<String> privateNames = new TreeSet<>();
        for (Method method : DripEars.class.getDeclaredMethods()) {
            if (Modifier.isPrivate(method.getModifiers())) {
                privateNames.add(method.getName());
            } else {
                String parameters = Arrays.toString(method.getParameterTypes()).replace("[", "(").replace("]", ")");
                methods.add(method.getReturnType() + " " + method.getName() + parameters);
                publicNames.add(method.getName());
                due(method.getName(), Modifier.toString(method.getModifiers()), "public");
            }
        }
        due("methods", methods, told);
        privateNames.retainAll(publicNames);
        due("private methods with public names", privateNames, new TreeSet<String>());
    }

    private static void constants(String face) throws IllegalAccessException {
        Set<String> told = new TreeSet<>();
        Matcher matcher = CONSTANT.matcher(face);
        while (matcher.find()) {
            told.add("public static final int " + matcher.group(1) + " = " + matcher.group(2));
        }
        due("constants of the document", told.size(), 5);
        Set<String> constants = new TreeSet<>();
        for (Field field : DripEars.class.getDeclaredFields()) {
            if (!Modifier.isPrivate(field.getModifiers())) {
                String how = Modifier.toString(field.getModifiers()) + " " + field.getType() + " " + field.getName();
                constants.add(how + " = " + field.get(null));
            }
        }
        due("constants", constants, told);
    }

    private static void constructor() {
        due("modifiers", Modifier.toString(DripEars.class.getModifiers()), "public final");
        Constructor<?>[] constructors = DripEars.class.getDeclaredConstructors();
        due("constructors", constructors.length, 1);
        due("parameters", constructors[0].getParameterCount(), 0);
        due("constructor", Modifier.toString(constructors[0].getModifiers()), "public");
    }

    private static void nested() {
        for (Class<?> type : DripEars.class.getDeclaredClasses()) {
            due(type + " static", Modifier.isStatic(type.getModifiers()), true);
            due(type + " public", Modifier.isPublic(type.getModifiers()), false);
            due(type + " protected", Modifier.isProtected(type.getModifiers()), false);
        }
    }

    private static void signs() throws IOException {
        String source = Files.readString(SOURCE);
        for (int i = 0; i < source.length(); i++) {
            if (source.charAt(i) > 126) {
                due("a sign of the source", (int) source.charAt(i), 126);
            }
        }
    }
}
