import java.lang.reflect.Constructor;
import java.lang.reflect.Field;
import java.lang.reflect.Member;
import java.lang.reflect.Method;
import java.lang.reflect.Modifier;
import java.util.Set;
import java.util.TreeSet;

/** The public face: the constants, the constructor, the methods, and nothing else that others can see. */
public final class FaceTest {
    private static final Set<String> METHODS = Set.of(
            "int set(int,int)", "int job(int,int,int,int)", "int read()", "int drop(int)", "int move(int,int)",
            "int due(int,int)", "int order(int)", "int jobOf(int,int)", "int count(int)", "int at(int,int)",
            "int ifOrdered(int,int)", "int bestExchange(int)", "int bestFirst()", "int leastRacks()",
            "int put(long)", "int wipe()", "int fault()", "int undo()", "int save(int)", "int restore(int)");

    public static void main(String[] args) {
        constants();
        methods();
        nothingElse();
        Check.end();
    }

    private static void constants() {
        Check.due("NO_SUCH", PrintRacks.NO_SUCH, -1);
        Check.due("BAD_VALUE", PrintRacks.BAD_VALUE, -2);
        Check.due("BAD_TEXT", PrintRacks.BAD_TEXT, -3);
        Check.due("TOO_MANY", PrintRacks.TOO_MANY, -4);
        Check.due("NOT_POSSIBLE", PrintRacks.NOT_POSSIBLE, -5);
        Check.due("NONE", PrintRacks.NONE, -6);
        Check.due("PLATE", PrintRacks.PLATE, 0);
        Check.due("WASH", PrintRacks.WASH, 1);
        Check.due("SHADE", PrintRacks.SHADE, 2);
        Check.due("RUN", PrintRacks.RUN, 3);
        Check.due("DRY", PrintRacks.DRY, 4);
        Check.due("RACKS", PrintRacks.RACKS, 5);
        Check.due("HOLD", PrintRacks.HOLD, 6);
    }

    private static void methods() {
        Set<String> found = new TreeSet<>();
        for (Method method : PrintRacks.class.getDeclaredMethods()) {
            if (Modifier.isPublic(method.getModifiers())) {
                StringBuilder text = new StringBuilder();
                text.append(method.getReturnType()).append(' ').append(method.getName()).append('(');
                for (Class<?> type : method.getParameterTypes()) {
                    text.append(text.charAt(text.length() - 1) == '(' ? "" : ",").append(type);
                }
                found.add(text.append(')').toString());
            }
        }
        Check.isTrue("the public methods " + found + " are those of the document", found.equals(METHODS));
    }

    private static void nothingElse() {
        Check.isTrue("the class is final", Modifier.isFinal(PrintRacks.class.getModifiers()));
        Constructor<?>[] constructors = PrintRacks.class.getDeclaredConstructors();
        Check.due("constructors", constructors.length, 1);
        Check.due("parameters of the constructor", constructors[0].getParameterCount(), 0);
        int visible = 0;
        for (Field field : PrintRacks.class.getDeclaredFields()) {
            visible += isPrivate(field) ? 0 : 1;
        }
        Check.due("fields that others see", visible, 13);
        for (Method method : PrintRacks.class.getDeclaredMethods()) {
            Check.isTrue(method + " is public or private",
                    Modifier.isPublic(method.getModifiers()) || isPrivate(method));
        }
    }

    private static boolean isPrivate(Member member) {
        return Modifier.isPrivate(member.getModifiers());
    }
}
