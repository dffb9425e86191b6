import java.lang.reflect.Field;
import java.lang.reflect.Modifier;
import java.nio.charset.StandardCharsets;
import java.nio.file.Files;
import java.nio.file.Path;
import java.util.ArrayList;
import java.util.Arrays;
import java.util.List;
import java.util.regex.Matcher;
import java.util.regex.Pattern;

/** LANGUAGE.md: such of its rules as can be seen in the text of the class; each check names its rule. */
public final class LanguageTest {
    private static final Check CHECK = new Check("LanguageTest");
    private static final int MOST_LINES = 60;
    private static final int MOST_FIELDS = 20;

    public static void main(String[] args) throws Exception {
        String source = Files.readString(Path.of("src/main/java/ChipNetwork.java"), StandardCharsets.UTF_8);
        String code = withoutComments(source);
        signs(source);
        words(code);
        library(code);
        exceptions(code);
        lengths(source);
        fields();
        CHECK.end();
    }

    /** Texts stay as empty ones. */
    private static String withoutComments(String source) {
        String code = source.replaceAll("(?s)/\\*.*?\\*/", "").replaceAll("//[^\n]*", "");
        return code.replaceAll("\"[^\"\n]*\"", "\"\"").replaceAll("'[^'\n]+'", "' '");
    }

    private static void none(String rule, String code, String pattern) {
        Matcher matcher = Pattern.compile(pattern).matcher(code);
        boolean isThere = matcher.find();
        CHECK.is("rule " + rule + (isThere ? ": \"" + matcher.group() + "\"" : ""), isThere, false);
    }

    private static void signs(String source) {
        CHECK.is("rule 4: signs of the program are 1 to 127", source.chars().allMatch(c -> c > 0 && c < 128), true);
        none("1: a package line", source, "(?m)^package ");
    }

    private static void words(String code) {
        none("2: a lambda or a method reference", code, "->|::");
        none("3: a type", code, "\\b(float|Object|Long|Double|Boolean|Character|Map|Set|HashMap|Deque|Stream)\\b(?!\\.)");
        none("6: a statement", code, "\\b(finally|synchronized|assert|catch|volatile|transient|native)\\b");
        none("10: a text joined by +", code, "\"\\s*\\+|\\+\\s*\"|\\+=\\s*\"");
        none("13: clock, chance, threads", code, "\\b(Random|Thread|Runtime|Process|currentTimeMillis|nanoTime)\\b");
    }

    private static void library(String code) {
        none("4: an import", code, "import (?!java\\.util\\.(Arrays|ArrayList|List|Iterator|NoSuchElementException);)");
        none("4: System", code, "\\bSystem\\.(?!arraycopy\\b)");
        none("4: Arrays", code, "\\bArrays\\.(?!copyOf\\b|copyOfRange\\b|fill\\b)");
        none("4: Exact", code, "Exact\\b");
        none("4: Integer, Long, Math", code,
                "\\b(Integer|Long|Math)\\.(?!bitCount\\b|compare\\b|max\\b|min\\b|abs\\b|floorDiv\\b|floorMod\\b)");
    }

    private static void exceptions(String code) {
        Matcher thrown = Pattern.compile("\\bthrow\\b[^;]*;").matcher(code);
        while (thrown.find()) {
            CHECK.is("rule 6: " + thrown.group(), thrown.group().matches("throw new (IllegalArgumentException"
                    + "|IndexOutOfBoundsException|ArithmeticException)\\(\"\"\\);"), true);
        }
        none("6: equals, hashCode, toString", code, "\\b(equals|hashCode|toString|getClass)\\(");
    }

    /** A method begins with a heading at the indentation of its class's members and ends with a brace there. */
    private static void lengths(String source) {
        String[] lines = source.split("\n");
        int start = -1;
        String indent = "";
        int methods = 0;
        for (int n = 0; n < lines.length; n++) {
            Matcher heading = Pattern.compile("^( {4}| {8})(?!else|for|if|while|switch|return)\\w[^=;]*\\(.*\\{$")
                    .matcher(lines[n]);
            if (start < 0 && heading.find()) {
                start = n;
                indent = heading.group(1);
            } else if (start >= 0 && lines[n].equals(indent + "}")) {
                CHECK.is("rule 11: lines of" + lines[start] + " are " + (n - start + 1),
                        n - start < MOST_LINES, true);
                start = -1;
                methods++;
            }
        }
        CHECK.is("methods were seen", methods > 100 && start < 0, true);
    }

    private static void fields() {
        List<Class<?>> classes = new ArrayList<>(Arrays.asList(ChipNetwork.class.getDeclaredClasses()));
        classes.add(ChipNetwork.class);
        List<Class<?>> constants = List.of(int.class, long.class, boolean.class, char.class, String.class,
                int[].class, long[].class, char[].class, byte[].class);
        for (Class<?> one : classes) {
            int held = 0;
            for (Field field : one.getDeclaredFields()) {
                if (Modifier.isStatic(field.getModifiers())) {
                    CHECK.is("rule 5: " + field, Modifier.isFinal(field.getModifiers())
                            && constants.contains(field.getType()), true);
                } else {
                    held++;
                }
            }
            CHECK.is("rule 11: fields of " + one + " are " + held, held <= MOST_FIELDS, true);
            CHECK.is("rule 2: " + one + " is static", one == ChipNetwork.class
                    || Modifier.isStatic(one.getModifiers()) && !Modifier.isPublic(one.getModifiers()), true);
        }
    }
}
