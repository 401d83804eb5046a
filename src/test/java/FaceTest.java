import java.io.IOException;
import java.lang.reflect.Constructor;
import java.lang.reflect.Field;
import java.lang.reflect.Member;
import java.lang.reflect.Method;
import java.lang.reflect.Modifier;
import java.nio.file.Files;
import java.nio.file.Path;
import java.util.ArrayList;
import java.util.List;
import java.util.Set;
import java.util.TreeSet;
import java.util.regex.Matcher;
import java.util.regex.Pattern;

/**
 * The public face as ../shared/DOC.md writes it, and nothing else that others can see; with it what the compiled
 * classes show of the rules 1, 5 and 11 of ../shared/LANGUAGE.md.
 */
public final class FaceTest {
    private static final int MOST_PARAMETERS = 7;
    private static final int MOST_CLASSES = 12;
    private static final int MOST_FIELDS = 20;

    public static void main(String[] args) throws IOException, ReflectiveOperationException {
        String text = Files.readString(Path.of("../shared/DOC.md"));
        int from = text.indexOf("public final class PrintRacks {");
        String face = text.substring(from, text.indexOf("```", from));
        constants(face);
        methods(face);
        nothingElse();
        for (Class<?> each : classes()) {
            languageOf(each);
        }
        Check.end();
    }

    private static void constants(String face) throws ReflectiveOperationException {
        Set<String> want = new TreeSet<>();
        Matcher matcher = Pattern.compile("([A-Z_]+) = (-?\\d+)").matcher(face);
        while (matcher.find()) {
            want.add(matcher.group(1));
            Field field = PrintRacks.class.getDeclaredField(matcher.group(1));
            Check.dueText(field.getName(), Modifier.toString(field.getModifiers()) + " " + field.getType(),
                    "public static final int");
            Check.due(field.getName(), field.getInt(null), Integer.parseInt(matcher.group(2)));
        }
        Check.due("constants of the document", want.size(), 13);
        for (Field field : PrintRacks.class.getDeclaredFields()) {
            Check.isTrue(field.getName() + " is private or of the document",
                    isPrivate(field) || want.contains(field.getName()));
        }
    }

    private static void methods(String face) {
        Set<String> want = new TreeSet<>();
        Matcher matcher = Pattern.compile("public (int \\w+\\([^)]*\\));").matcher(face);
        while (matcher.find()) {
            want.add(matcher.group(1).replaceAll("(int|long) \\w+(?=[,)])", "$1").replace(", ", ","));
        }
        Check.due("methods of the document", want.size(), 20);
        Set<String> found = new TreeSet<>();
        for (Method method : PrintRacks.class.getDeclaredMethods()) {
            if (Modifier.isPublic(method.getModifiers())) {
                found.add(head(method));
            }
        }
        Check.dueText("as public methods", found.toString(), want.toString());
    }

    private static String head(Method method) {
        List<String> types = new ArrayList<>();
        for (Class<?> type : method.getParameterTypes()) {
            types.add(type.toString());
        }
        return method.getReturnType() + " " + method.getName() + "(" + String.join(",", types) + ")";
    }

    private static void nothingElse() {
        Check.dueText("as modifiers of the class", Modifier.toString(PrintRacks.class.getModifiers()), "public final");
        Constructor<?>[] constructors = PrintRacks.class.getDeclaredConstructors();
        Check.due("constructors", constructors.length, 1);
        Check.due("parameters of the constructor", constructors[0].getParameterCount(), 0);
        Check.isTrue("the constructor is public", Modifier.isPublic(constructors[0].getModifiers()));
        for (Method method : PrintRacks.class.getDeclaredMethods()) {
            Check.isTrue(method + " is public or private",
                    Modifier.isPublic(method.getModifiers()) || isPrivate(method));
            Check.isTrue(method + " belongs to an object, if it is public",
                    isPrivate(method) || !Modifier.isStatic(method.getModifiers()));
        }
        for (Class<?> inside : PrintRacks.class.getDeclaredClasses()) {
            Check.isTrue(inside + " is static", Modifier.isStatic(inside.getModifiers()));
            Check.isTrue(inside + " is not for others",
                    !Modifier.isPublic(inside.getModifiers()) && !Modifier.isProtected(inside.getModifiers()));
        }
    }

    private static List<Class<?>> classes() {
        List<Class<?>> classes = new ArrayList<>(List.of(PrintRacks.class.getDeclaredClasses()));
        classes.add(PrintRacks.class);
        Check.isTrue(classes.size() + " classes", classes.size() <= MOST_CLASSES);
        return classes;
    }

    private static void languageOf(Class<?> each) {
        Set<String> open = new TreeSet<>();
        for (Method method : PrintRacks.class.getDeclaredMethods()) {
            if (!isPrivate(method)) {
                open.add(method.getName());
            }
        }
        for (Method method : each.getDeclaredMethods()) {
            Check.isTrue(method + " takes at most seven parameters", method.getParameterCount() <= MOST_PARAMETERS);
            Check.isTrue(method + " bears no name of a public one",
                    !isPrivate(method) || !open.contains(method.getName()));
        }
        int fields = 0;
        for (Field field : each.getDeclaredFields()) {
            boolean isStatic = Modifier.isStatic(field.getModifiers());
            Check.isTrue(field + " is final, if it is static", !isStatic || Modifier.isFinal(field.getModifiers()));
            fields += isStatic ? 0 : 1;
        }
        Check.isTrue(each + " has " + fields + " fields", fields <= MOST_FIELDS);
    }

    private static boolean isPrivate(Member member) {
        return Modifier.isPrivate(member.getModifiers());
    }
}
