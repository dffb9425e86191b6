import java.lang.reflect.Constructor;
import java.lang.reflect.Field;
import java.lang.reflect.Method;
import java.lang.reflect.Modifier;
import java.nio.file.Files;
import java.nio.file.Path;
import java.util.ArrayList;
import java.util.Arrays;
import java.util.Collections;
import java.util.List;
import java.util.regex.Matcher;
import java.util.regex.Pattern;

/** The public face is that of the document, and nothing else can be seen from outside. */
public final class FaceTest {
    public static void main(String[] args) throws Exception {
        Check check = new Check("FaceTest");
        List<String> due = declaredInDocument();
        List<String> here = declaredInClass();
        check.is("methods in the document", due.size(), 55);
        for (String method : due) {
            check.is(method, here.contains(method), true);
        }
        check.is("methods that the document does not have", here.size(), due.size());
        check.is("class is public and final", Modifier.isPublic(ChipNetwork.class.getModifiers())
                && Modifier.isFinal(ChipNetwork.class.getModifiers()), true);
        Constructor<?>[] made = ChipNetwork.class.getDeclaredConstructors();
        check.is("constructors", made.length, 1);
        check.is("public constructor without parameters",
                Modifier.isPublic(made[0].getModifiers()) && made[0].getParameterCount() == 0, true);
        checkFields(check);
        checkNames(check);
        check.end();
    }

    private static void checkFields(Check check) throws IllegalAccessException {
        int seen = 0;
        for (Field field : ChipNetwork.class.getDeclaredFields()) {
            if (!Modifier.isPrivate(field.getModifiers())) {
                seen++;
            }
            if (Modifier.isStatic(field.getModifiers())) {
                check.is(field.getName() + " is final", Modifier.isFinal(field.getModifiers()), true);
            }
        }
        check.is("fields to be seen", seen, 4);
        check.is("NONE", ChipNetwork.NONE, -1);
        check.is("FULL", ChipNetwork.FULL, -2);
        check.is("TEXT_ERROR", ChipNetwork.TEXT_ERROR, -3);
        check.is("REFUSED", ChipNetwork.REFUSED, -4);
    }

    private static void checkNames(Check check) {
        List<String> open = new ArrayList<>();
        for (Method method : ChipNetwork.class.getDeclaredMethods()) {
            if (Modifier.isPublic(method.getModifiers())) {
                open.add(method.getName());
            }
        }
        List<Class<?>> classes = new ArrayList<>(Arrays.asList(ChipNetwork.class.getDeclaredClasses()));
        classes.add(ChipNetwork.class);
        check.is("some twelve classes at most", classes.size() <= 12, true);
        for (Class<?> one : classes) {
            for (Method method : one.getDeclaredMethods()) {
                boolean isOpen = Modifier.isPublic(method.getModifiers());
                check.is(one + " " + method.getName() + " bears the name of a public method",
                        !isOpen && open.contains(method.getName()), false);
                check.is("parameters of " + method.getName(), method.getParameterCount() <= 7, true);
            }
        }
    }

    private static List<String> declaredInDocument() throws Exception {
        String text = Files.readString(Path.of("../shared/DOC.md"));
        String face = text.substring(text.indexOf("```java"), text.indexOf("## Description"));
        Matcher lines = Pattern.compile("public (\\w+) (\\w+)\\(([^)]*)\\)(?: throws ([\\w, ]+))?;").matcher(face);
        List<String> all = new ArrayList<>();
        while (lines.find()) {
            List<String> types = new ArrayList<>();
            for (String parameter : lines.group(3).split(", ")) {
                types.add(parameter.split(" ")[0]);
            }
            List<String> thrown = new ArrayList<>();
            if (lines.group(4) != null) {
                thrown.addAll(Arrays.asList(lines.group(4).split(", ")));
            }
            all.add(described(lines.group(1), lines.group(2), types, thrown));
        }
        return all;
    }

    private static List<String> declaredInClass() {
        List<String> all = new ArrayList<>();
        for (Method method : ChipNetwork.class.getDeclaredMethods()) {
            if (Modifier.isPrivate(method.getModifiers()) || method.isSynthetic()) {
                continue;
            }
            List<String> types = new ArrayList<>();
            for (Class<?> type : method.getParameterTypes()) {
                types.add(type.getSimpleName());
            }
            List<String> thrown = new ArrayList<>();
            for (Class<?> type : method.getExceptionTypes()) {
                thrown.add(type.getSimpleName());
            }
            if (types.isEmpty()) {
                types.add("");
            }
            all.add(described(method.getReturnType().getSimpleName(), method.getName(), types, thrown));
        }
        return all;
    }

    private static String described(String answer, String name, List<String> types, List<String> thrown) {
        Collections.sort(thrown);
        return answer + " " + name + types + thrown;
    }
}
