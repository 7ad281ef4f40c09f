import java.io.IOException;
import java.io.UncheckedIOException;
import java.lang.reflect.Field;
import java.lang.reflect.Method;
import java.lang.reflect.Modifier;
import java.nio.file.Files;
import java.nio.file.Path;
import java.util.ArrayList;
import java.util.List;
import java.util.Set;
import java.util.TreeSet;
import java.util.regex.Matcher;
import java.util.regex.Pattern;

/** The rules of LANGUAGE.md, as far as the class and its source show them. */
public final class LanguageTest {
    private static final Path SOURCE = Path.of("src/main/java/StreamPlayer.java");
    private static final Set<String> LIBRARY =
        Set.of("Math.min", "Math.max", "System.arraycopy", "FIRST_VALUES.clone");
    private static final Set<String> THROWN = Set.of("IndexOutOfBoundsException",
        "IllegalArgumentException", "IllegalStateException");
    private static final Set<String> OUTSIDE = Set.of("import", "package", "finally", "synchronized",
        "assert", "catch", "try", "native", "volatile", "transient", "strictfp", "equals",
        "hashCode", "toString", "double", "float");
    private static final int MOST_LINES = 60;
    private static final int MOST_CLASSES = 12;
    private static final int MOST_FIELDS = 20;
    private static final int MOST_ARGUMENTS = 7;

    private static final String CODE = code();
    private static final List<Class<?>> CLASSES = classes();

    private LanguageTest() {
    }

    public static void main(String[] args) {
        Check.sentence("Rule 1", "No private method bears the name of a public one",
            LanguageTest::facesNamesAreItsOwn);
        Check.sentence("Rule 2", "no lambda, no method reference", () ->
            Check.holds("that there is none", !CODE.contains("->") && !CODE.contains("::")));
        Check.sentence("Rule 3 and 6", "words that the class does without", LanguageTest::wordsAreFew);
        Check.sentence("Rule 4", "only what stands here", LanguageTest::libraryIsSmall);
        Check.sentence("Rule 5", "Static fields are final", LanguageTest::staticFieldsAreFinal);
        Check.sentence("Rule 6", "throw new E(\"a written text\")", LanguageTest::throwsAreDue);
        Check.sentence("Rule 11", "at most seven parameters", LanguageTest::argumentsAreFew);
        Check.sentence("Rule 11", "Methods stay short", LanguageTest::methodsAreShort);
        Check.sentence("Rule 11", "some twelve classes", () ->
            Check.holds("that there are no more", CLASSES.size() <= MOST_CLASSES));
        Check.sentence("Rule 11", "some twenty fields beside its constants",
            LanguageTest::fieldsAreFew);
        Check.end();
    }

    private static void facesNamesAreItsOwn() {
        Set<String> face = new TreeSet<>();
        for (Method method : StreamPlayer.class.getDeclaredMethods()) {
            if (Modifier.isPublic(method.getModifiers())) {
                face.add(method.getName());
            }
        }
        for (Class<?> each : CLASSES) {
            for (Method method : each.getDeclaredMethods()) {
                boolean itself = each == StreamPlayer.class && Modifier.isPublic(method.getModifiers());
                Check.holds(each.getSimpleName() + "." + method.getName() + " has its own name",
                    itself || !face.contains(method.getName()));
            }
        }
    }

    private static void wordsAreFew() {
        Matcher words = Pattern.compile("[A-Za-z]+").matcher(CODE);
        while (words.find()) {
            Check.holds(words.group() + " is not used", !OUTSIDE.contains(words.group()));
        }
    }

    /** What is called on a name that begins with a great letter is a library's or a constant's. */
    private static void libraryIsSmall() {
        Matcher calls = Pattern.compile("\\b([A-Z]\\w*\\.\\w+)\\(").matcher(CODE);
        while (calls.find()) {
            boolean own = calls.group(1).equals("Stream.allows");
            Check.holds(calls.group(1) + " may be called", own || LIBRARY.contains(calls.group(1)));
        }
    }

    private static void staticFieldsAreFinal() {
        for (Class<?> each : CLASSES) {
            for (Field field : each.getDeclaredFields()) {
                int modifiers = field.getModifiers();
                Check.holds(field.getName() + " is no static state",
                    !Modifier.isStatic(modifiers) || Modifier.isFinal(modifiers));
            }
        }
    }

    private static void throwsAreDue() {
        Matcher throwing = Pattern.compile("\\bthrow\\b\\s*(new (\\w+)\\(\"\"\\);)?").matcher(CODE);
        while (throwing.find()) {
            String thrown = throwing.group(2);
            Check.holds(thrown + " may be thrown", thrown != null && THROWN.contains(thrown));
        }
    }

    private static void argumentsAreFew() {
        for (Class<?> each : CLASSES) {
            for (Method method : each.getDeclaredMethods()) {
                Check.holds(method.getName() + " has few arguments",
                    method.getParameterCount() <= MOST_ARGUMENTS);
            }
        }
    }

    /** A method begins and ends at the margin of the members of its class. */
    private static void methodsAreShort() {
        String[] lines = CODE.split("\n");
        int begun = 0;
        int methods = 0;
        for (int i = 0; i < lines.length; i++) {
            if (lines[i].matches("( {4}| {8})(?!if|for|switch|while)\\w.*\\(.*[^;]")) {
                begun = i;
            } else if (lines[i].matches("( {4}| {8})\\}") && begun > 0) {
                methods++;
                Check.holds(lines[begun].trim() + " is short", i - begun < MOST_LINES);
                begun = 0;
            }
        }
        Check.holds("that the methods were found", methods > 100);
    }

    private static void fieldsAreFew() {
        for (Class<?> each : CLASSES) {
            int fields = 0;
            for (Field field : each.getDeclaredFields()) {
                fields += Modifier.isStatic(field.getModifiers()) ? 0 : 1;
            }
            Check.holds(each.getSimpleName() + " has few fields", fields <= MOST_FIELDS);
        }
    }

    private static List<Class<?>> classes() {
        List<Class<?>> all = new ArrayList<>();
        all.add(StreamPlayer.class);
        all.addAll(List.of(StreamPlayer.class.getDeclaredClasses()));
        return all;
    }

    /** The source without what its comments and texts say. */
    private static String code() {
        try {
            return Files.readString(SOURCE)
                .replaceAll("\"[^\"\n]*\"", "\"\"")
                .replaceAll("//[^\n]*", "")
                .replaceAll("(?s)/\\*.*?\\*/", "");
        } catch (IOException e) {
            throw new UncheckedIOException(e);
        }
    }
}
