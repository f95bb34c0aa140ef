import java.io.IOException;
import java.lang.reflect.Field;
import java.lang.reflect.Method;
import java.lang.reflect.Modifier;
import java.nio.file.Files;
import java.nio.file.Path;
import java.util.ArrayList;
import java.util.List;
import java.util.Set;
import java.util.regex.Matcher;
import java.util.regex.Pattern;

/**
 * The rules of LANGUAGE.md, as far as the text of the class or reflection can tell them (FaceTest has rule 1).
 * That each index, divisor and reference is looked at before it is used, is for a reader to see.
 */
public final class RulesTest {
    private static final Check check = new Check();

    private static final Set<String> IMPORTS = Set.of("java.util.ArrayList", "java.util.List", "java.util.Arrays",
        "java.util.Iterator", "java.util.NoSuchElementException");

    /** The machine itself throws exceptions of the other classes, or of classes below them. */
    private static final String CATCH_OF_OTHERS = "\\bcatch\\s*\\(\\s*(?!(IllegalStateException|"
        + "IllegalArgumentException|UnsupportedOperationException|NoSuchElementException)\\b)";

    /** Words that have no place in the class, and the rule that rules them out. */
    private static final String[][] NOT_THERE = {
        {"2", "->"}, {"2", "::"},
        {"3", "\\.\\.\\."}, {"3", "\\bvar\\b"}, {"3", "\\bObject\\b"}, {"3", "NaN"}, {"3", "\\bMap\\b"},
        {"4", "Exact\\("}, {"4", "\\bSystem\\.(?!arraycopy\\b)"}, {"4", "\\b(Integer|Long)\\.(parse|valueOf)"},
        {"4", "\\bString\\.(format|valueOf|join)"}, {"4", "@"}, {"4", "java\\.(?!util\\.\\w+;)"},
        {"5", "\\bstatic\\s*\\{"},
        {"6", "\\bfinally\\b"}, {"6", "\\bsynchronized\\b"}, {"6", "\\bassert\\b"}, {"6", "getMessage"},
        {"6", "\\bextends\\s+\\w*Exception\\b"}, {"6", CATCH_OF_OTHERS},
        {"6", "\\b(equals|hashCode|toString)\\s*\\([^)]*\\)\\s*\\{"},
        {"9", "\\bwhile\\s*\\(\\s*true\\b"}, {"9", "\\bfor\\s*\\([^;]*;\\s*;"},
        {"10", "\"\"\\s*\\+|\\+\\s*\"\""},
        {"13", "\\b(Thread|Random|random|nanoTime|currentTimeMillis|File|Runtime)\\b"},
    };

    private static final String THROWN = "new (IllegalStateException|IllegalArgumentException|"
        + "IndexOutOfBoundsException|ArithmeticException|UnsupportedOperationException|NoSuchElementException|"
        + "RuntimeException)\\((\"\")?\\);";

    public static void main(String[] args) throws IOException {
        String text = bare(Files.readString(Path.of("src/main/java/VendingRounds.java")));
        words(text);
        thrown(text);
        lengthsOfMethods(text);
        List<Class<?>> classes = new ArrayList<>(List.of(VendingRounds.class.getDeclaredClasses()));
        check.due("rule 11: at most twelve classes", classes.size() < 12 ? 1 : 0, 1);
        for (Class<?> inside : classes) {
            int modifiers = inside.getModifiers();
            if (!Modifier.isStatic(modifiers) || Modifier.isPublic(modifiers) || Modifier.isProtected(modifiers)) {
                check.tell("rule 1: not static, or not private or package-visible: " + inside.getName());
            }
        }
        classes.add(VendingRounds.class);
        for (Class<?> each : classes) {
            fields(each);
            parameters(each);
        }
        check.finish();
    }

    /** The text without comments, and with all written texts empty. */
    private static String bare(String text) {
        Matcher part = Pattern.compile("(?s)/\\*.*?\\*/|//[^\n]*|\"(\\\\.|[^\"\\\\])*\"").matcher(text);
        return part.replaceAll(found -> found.group().startsWith("\"") ? "\"\"" : found.group().replaceAll("[^\n]", ""));
    }

    private static void words(String text) {
        for (String[] rule : NOT_THERE) {
            Matcher found = Pattern.compile(rule[1]).matcher(text);
            if (found.find()) {
                check.tell("rule " + rule[0] + ": the class has " + found.group());
            }
        }
        if (Pattern.compile("(?m)^\\s*package\\b").matcher(text).find()) {
            check.tell("the class has a package line");
        }
        Matcher imported = Pattern.compile("(?m)^\\s*import\\s+([^;]+);").matcher(text);
        while (imported.find()) {
            if (!IMPORTS.contains(imported.group(1))) {
                check.tell("rule 4: the class imports " + imported.group(1));
            }
        }
    }

    private static void thrown(String text) {
        Matcher thrown = Pattern.compile("\\bthrow\\s+([^;]*;)").matcher(text);
        while (thrown.find()) {
            if (!thrown.group(1).matches(THROWN)) {
                check.tell("rule 6: the class has throw " + thrown.group(1));
            }
        }
    }

    /** A method begins with a line that has a parameter list and an opening brace, and is none of a statement. */
    private static void lengthsOfMethods(String text) {
        String[] lines = text.replaceAll("\\)\\s*\n\\s*throws", ") throws").split("\n", -1);
        int methods = 0;
        for (int first = 0; first < lines.length; first++) {
            boolean opens = lines[first].matches(" {4}(    )?(\\w|[<>\\[\\], ]).*\\)( throws [\\w, ]+)? \\{")
                && !lines[first].matches("\\s*(if|for|while|switch|\\}).*");
            if (opens) {
                methods++;
                String end = lines[first].replaceAll("\\S.*", "") + "}";
                int last = first;
                while (last < lines.length && !lines[last].equals(end)) {
                    last++;
                }
                if (last - first > 60) {
                    check.tell("rule 11: a method is too long: " + lines[first].trim());
                }
            }
        }
        check.due("rule 11: the methods are found", methods > 30 ? 1 : 0, 1);
    }

    private static void fields(Class<?> each) {
        int fields = 0;
        for (Field field : each.getDeclaredFields()) {
            int modifiers = field.getModifiers();
            if (!Modifier.isStatic(modifiers)) {
                fields++;
            } else if (!Modifier.isFinal(modifiers)) {
                check.tell("rule 5: a static field is not final: " + field);
            } else if (!field.isSynthetic() && !mayBeStatic(field)) {
                check.tell("rule 5: a static field that is no constant: " + field);
            }
        }
        check.due("rule 11: at most twenty fields in " + each.getName(), fields <= 20 ? 1 : 0, 1);
    }

    /** That an array is never changed, is for a reader to see. */
    private static boolean mayBeStatic(Field field) {
        Class<?> type = field.getType();
        return field.isEnumConstant() || type.isPrimitive() || type == String.class || type == int[].class
            || type == long[].class || type == char[].class || type == byte[].class;
    }

    private static void parameters(Class<?> each) {
        for (Method method : each.getDeclaredMethods()) {
            check.due("rule 11: at most seven parameters of " + method, method.getParameterCount() <= 7 ? 1 : 0, 1);
        }
    }
}
