import java.lang.reflect.Constructor;
import java.lang.reflect.Field;
import java.lang.reflect.Method;
import java.lang.reflect.Modifier;
import java.util.Arrays;
import java.util.Set;
import java.util.TreeSet;

/** The face of the class is the document's, and nothing else can be seen of it from outside. */
public final class FaceTest {
    private static final String[] METHODS = {
        "int stile(int,int)", "int open(int,int)", "int room(int,int)", "int slip(int,int,int)",
        "int pass(int,boolean,int)", "int audit(int)", "int repair(int)", "int hours(int)",
        "int close(int)", "int set(int,int)", "int append(int)", "int clearText()", "int fault()",
        "int run()", "int undo()", "int save()", "int restore()", "int hall(int,int)",
        "int stileOf(int,int)", "int counter(int,int,int)", "int reason(int,boolean,int)",
        "int worst(int)", "int count(int)", "int most(int,boolean)", "int emptyIn()",
        "int leftWithout(int,int)", "double fullness()"};
    private static final String[] CONSTANTS = {"NO_SUCH", "BAD_VALUE", "TOO_MANY", "NOT_POSSIBLE",
        "NONE", "RATE", "HOURS"};
    private static final int[] VALUES = {-100001, -100002, -100003, -100004, -100005, 0, 1};

    public static void main(String[] args) throws IllegalAccessException {
        Class<?> face = HallStiles.class;
        Checks.isTrue("the class is public and final", Modifier.isPublic(face.getModifiers())
                && Modifier.isFinal(face.getModifiers()));
        methods(face);
        constants(face);
        constructors(face);
        classesInside(face);
        Checks.end();
    }

    private static String named(Method method) {
        StringBuilder text = new StringBuilder(method.getReturnType() + " " + method.getName());
        text.append('(');
        for (Class<?> type : method.getParameterTypes()) {
            text.append(text.charAt(text.length() - 1) == '(' ? "" : ",").append(type);
        }
        return text.append(')').toString();
    }

    private static void methods(Class<?> face) {
        Set<String> seen = new TreeSet<>();
        Set<String> names = new TreeSet<>();
        for (Method method : face.getDeclaredMethods()) {
            if (!Modifier.isPrivate(method.getModifiers())) {
                Checks.isTrue(method + " is public", Modifier.isPublic(method.getModifiers()));
                Checks.isTrue(method + " is not static", !Modifier.isStatic(method.getModifiers()));
                seen.add(named(method));
                names.add(method.getName());
            }
        }
        Checks.isTrue("the methods are " + seen,
                seen.equals(new TreeSet<>(Arrays.asList(METHODS))));
        for (Method method : face.getDeclaredMethods()) {
            Checks.isTrue(method + " bears the name of a public method",
                    !Modifier.isPrivate(method.getModifiers()) || !names.contains(method.getName()));
        }
    }

    private static void constants(Class<?> face) throws IllegalAccessException {
        Set<String> seen = new TreeSet<>();
        for (Field field : face.getDeclaredFields()) {
            if (Modifier.isStatic(field.getModifiers())) {
                Checks.isTrue(field + " is final", Modifier.isFinal(field.getModifiers()));
            }
            if (!Modifier.isPrivate(field.getModifiers())) {
                Checks.isTrue(field + " is a public constant of int", field.getType() == int.class
                        && field.getModifiers()
                        == (Modifier.PUBLIC | Modifier.STATIC | Modifier.FINAL));
                seen.add(field.getName());
                int at = Arrays.asList(CONSTANTS).indexOf(field.getName());
                Checks.due(field.getName(), field.getInt(null), at < 0 ? -1 : VALUES[at]);
            }
        }
        Checks.isTrue("the constants are " + seen,
                seen.equals(new TreeSet<>(Arrays.asList(CONSTANTS))));
    }

    private static void constructors(Class<?> face) {
        Constructor<?>[] all = face.getDeclaredConstructors();
        Checks.due("constructors", all.length, 1);
        Checks.isTrue("it is public and takes nothing", Modifier.isPublic(all[0].getModifiers())
                && all[0].getParameterCount() == 0);
    }

    private static void classesInside(Class<?> face) {
        for (Class<?> inside : face.getDeclaredClasses()) {
            int modifiers = inside.getModifiers();
            Checks.isTrue(inside + " is static, and neither public nor protected",
                    Modifier.isStatic(modifiers) && !Modifier.isPublic(modifiers)
                    && !Modifier.isProtected(modifiers));
        }
    }
}
