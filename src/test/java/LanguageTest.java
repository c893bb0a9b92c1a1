import java.io.IOException;
import java.lang.reflect.Constructor;
import java.lang.reflect.Field;
import java.lang.reflect.Method;
import java.lang.reflect.Modifier;
import java.nio.file.Files;
import java.nio.file.Path;
import java.util.ArrayList;
import java.util.List;
import java.util.Set;
import java.util.TreeSet;
import java.util.regex.Matcher;
import java.util.regex.Pattern;

/** What of LANGUAGE.md can be seen from the program's text and its classes (rule 1 is FaceTest's). */
public final class LanguageTest {
    private static final Path PROGRAM = Path.of("src/main/java/TwinNetwork.java");
    private static final Set<String> EXCEPTIONS = Set.of("IllegalStateException", "IllegalArgumentException",
            "IndexOutOfBoundsException", "ArithmeticException", "UnsupportedOperationException",
            "NoSuchElementException", "RuntimeException");
    private static final Set<String> LIBRARY = Set.of("String", "StringBuilder", "Integer", "Long", "Math", "System",
            "Arrays", "ArrayList", "List", "Iterator", "Iterable", "Comparable");
    private static final Set<String> WORDS = Set.of("finally", "synchronized", "assert", "package", "hashCode",
            "getMessage");
    private static final Set<String> SIGNS = Set.of("->", "::", "static {");
    private static final int MOST_LINES = 60;
    private static final int MOST_PARAMETERS = 7;
    private static final int MOST_CLASSES = 12;
    private static final int MOST_FIELDS = 20;

    private static final Due DUE = new Due("language");

    public static void main(String[] args) throws IOException {
        String text = withoutComments(Files.readString(PROGRAM));
        List<Class<?>> classes = new ArrayList<>(List.of(TwinNetwork.class.getDeclaredClasses()));
        classes.add(TwinNetwork.class);
        onlyToldNames(text, classes);
        onlyFunctionsOfTheLibrary(text);
        onlyToldExceptions(text);
        noForbiddenWords(text);
        shortMethods(text);
        fewMembers(classes);
        DUE.end();
    }

    private static String withoutComments(String text) {
        return text.replaceAll("(?s)/\\*.*?\\*/", "").replaceAll("//[^\n]*", "");
    }

    private static void onlyToldNames(String text, List<Class<?>> classes) {
        DUE.sentence("The library: only what stands here.");
        Set<String> told = new TreeSet<>(LIBRARY);
        told.addAll(EXCEPTIONS);
        for (Class<?> own : classes) {
            told.add(own.getSimpleName());
        }
        Matcher name = Pattern.compile("\\b[A-Z]\\w*[a-z]\\w*").matcher(text);
        while (name.find()) {
            DUE.isTrue("the name " + name.group() + " is told", told.contains(name.group()));
        }
    }

    private static void onlyFunctionsOfTheLibrary(String text) {
        DUE.sentence("the static functions of Integer, Long and Math over int and long (compare, max, min, abs, "
                + "bitCount, floorDiv, floorMod and their like; none of those whose name ends in Exact)");
        Matcher use = Pattern.compile("\\b(Integer|Long|Math|System|Arrays)\\.(\\w+)(\\(?)").matcher(text);
        while (use.find()) {
            DUE.isTrue(use.group() + " is a function", use.group(3).equals("(") && !use.group(2).endsWith("Exact"));
            DUE.isTrue(use.group() + " is told", !use.group(1).equals("System") || use.group(2).equals("arraycopy"));
        }
    }

    private static void onlyToldExceptions(String text) {
        DUE.sentence("Exceptions: throw new E() or throw new E(\"a written text\")");
        Matcher thrown = Pattern.compile("\\bthrow\\b[^;]*;").matcher(text);
        Pattern form = Pattern.compile("throw new (\\w+)\\((\"[^\"]*\")?\\);");
        while (thrown.find()) {
            Matcher told = form.matcher(thrown.group());
            DUE.isTrue(thrown.group(), told.matches() && EXCEPTIONS.contains(told.group(1)));
        }
    }

    private static void noForbiddenWords(String text) {
        DUE.sentence("in the part of it that these rules leave");
        Matcher word = Pattern.compile("\\w+").matcher(text);
        while (word.find()) {
            DUE.isFalse("the word " + word.group() + " stands there", WORDS.contains(word.group()));
        }
        for (String sign : SIGNS) {
            DUE.isFalse("the sign " + sign + " stands there", text.contains(sign));
        }
        DUE.isFalse("two dimensions of objects", Pattern.compile("\\b[A-Z]\\w+\\[\\]\\[\\]").matcher(text).find());
    }

    private static void shortMethods(String text) {
        DUE.sentence("Methods stay short (some sixty lines)");
        // A method's last line is the first bracket that stands as far in as its first line.
        Matcher method = Pattern.compile("(?ms)^( {4}| {8})\\w[^;={}]*\\)[^;={}]*\\{$.*?^\\1\\}").matcher(text);
        int methods = 0;
        while (method.find()) {
            methods++;
            String first = method.group().substring(0, method.group().indexOf('{')).strip();
            DUE.isTrue(first + " is short", method.group().lines().count() <= MOST_LINES);
        }
        DUE.isTrue("the methods are found: " + methods, methods > TwinNetwork.class.getDeclaredMethods().length);
    }

    private static void fewMembers(List<Class<?>> classes) {
        DUE.sentence("A method takes at most seven parameters. .. the file has at most some twelve classes, and a "
                + "class some twenty fields beside its constants. .. Static fields are final");
        DUE.isTrue(classes.size() + " classes", classes.size() <= MOST_CLASSES);
        for (Class<?> own : classes) {
            String name = own.getSimpleName();
            DUE.isTrue(name + " has no class inside", own == TwinNetwork.class || own.getDeclaredClasses().length == 0);
            for (Method method : own.getDeclaredMethods()) {
                DUE.isTrue(name + "." + method.getName(), method.getParameterCount() <= MOST_PARAMETERS);
            }
            for (Constructor<?> constructor : own.getDeclaredConstructors()) {
                DUE.isTrue("new " + name, constructor.getParameterCount() <= MOST_PARAMETERS);
            }
            fewFields(own);
        }
    }

    private static void fewFields(Class<?> own) {
        int fields = 0;
        for (Field field : own.getDeclaredFields()) {
            boolean isStatic = Modifier.isStatic(field.getModifiers());
            fields += isStatic ? 0 : 1;
            DUE.isTrue(own.getSimpleName() + "." + field.getName() + " is final",
                    !isStatic || Modifier.isFinal(field.getModifiers()));
        }
        DUE.isTrue(own.getSimpleName() + " has " + fields + " fields", fields <= MOST_FIELDS);
    }
}
