import java.io.IOException;
import java.lang.reflect.Constructor;
import java.lang.reflect.Field;
import java.lang.reflect.Method;
import java.lang.reflect.Modifier;
import java.nio.file.Files;
import java.nio.file.Path;
import java.util.ArrayList;
import java.util.List;
import java.util.TreeSet;

/** The face of the class as ../shared/DOC.md writes it, and nothing else that is seen from outside. */
public final class FaceTest {
    private static final Class<?> PROGRAM = OfficeholdersRoll.class;

    public static void main(String[] args) throws IOException {
        face();
        nothingElseIsSeen();
        nestedClasses();
        Due.end();
    }

    private static void face() throws IOException {
        TreeSet<String> due = new TreeSet<>();
        boolean isInside = false;
        for (String line : Files.readAllLines(Path.of("../shared/DOC.md"))) {
            if (line.startsWith("```")) {
                isInside = line.equals("```java");
            } else if (isInside && line.startsWith("    public ") && line.contains("(")) {
                due.add(plain(line));
            }
        }
        TreeSet<String> got = new TreeSet<>();
        for (Constructor<?> made : PROGRAM.getConstructors()) {
            got.add("public " + made.getName() + types(made.getParameterTypes()) + thrown(made.getExceptionTypes()));
        }
        for (Method method : PROGRAM.getDeclaredMethods()) {
            if (Modifier.isPublic(method.getModifiers())) {
                got.add("public " + method.getReturnType() + " " + method.getName()
                        + types(method.getParameterTypes()) + thrown(method.getExceptionTypes()));
            }
        }
        Due.is("the document tells the constructor and 25 methods", 26, due.size());
        Due.is("the face", due, got);
        Due.is("the class", "public final", Modifier.toString(PROGRAM.getModifiers()));
    }

    /** A line of the document without the names of arguments. */
    private static String plain(String line) {
        String head = line.trim().replace(";", "");
        String inside = head.substring(head.indexOf('(') + 1, head.indexOf(')'));
        List<String> types = new ArrayList<>();
        for (String argument : inside.isEmpty() ? new String[0] : inside.split(", ")) {
            types.add(argument.substring(0, argument.indexOf(' ')));
        }
        return head.substring(0, head.indexOf('(')) + types + head.substring(head.indexOf(')') + 1);
    }

    private static String types(Class<?>[] types) {
        List<String> names = new ArrayList<>();
        for (Class<?> type : types) {
            names.add(type.getSimpleName());
        }
        return names.toString();
    }

    private static String thrown(Class<?>[] types) {
        String names = types(types);
        return types.length == 0 ? "" : " throws " + names.substring(1, names.length() - 1);
    }

    private static void nothingElseIsSeen() {
        for (Field field : PROGRAM.getDeclaredFields()) {
            boolean isConstant = field.getName().equals("NONE");
            Due.is("field " + field.getName(), true, isConstant || Modifier.isPrivate(field.getModifiers()));
            boolean isStatic = Modifier.isStatic(field.getModifiers());
            Due.is("static " + field.getName(), true, !isStatic || Modifier.isFinal(field.getModifiers()));
        }
        TreeSet<String> names = new TreeSet<>();
        for (Method method : PROGRAM.getMethods()) {
            if (method.getDeclaringClass() == PROGRAM) {
                names.add(method.getName());
            }
        }
        for (Method method : PROGRAM.getDeclaredMethods()) {
            if (!Modifier.isPublic(method.getModifiers())) {
                Due.is("method " + method.getName(), true, Modifier.isPrivate(method.getModifiers()));
                Due.is("name " + method.getName() + " stands for a public method too", false,
                        names.contains(method.getName()));
            }
        }
    }

    private static void nestedClasses() {
        Due.is("at most twelve classes", true, PROGRAM.getDeclaredClasses().length < 12);
        for (Class<?> nested : PROGRAM.getDeclaredClasses()) {
            int modifiers = nested.getModifiers();
            Due.is("static " + nested.getName(), true, Modifier.isStatic(modifiers));
            Due.is("hidden " + nested.getName(), false,
                    Modifier.isPublic(modifiers) || Modifier.isProtected(modifiers));
        }
    }
}
