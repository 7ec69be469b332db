import java.lang.reflect.Constructor;
import java.lang.reflect.Field;
import java.lang.reflect.Method;
import java.lang.reflect.Modifier;
import java.util.Arrays;
import java.util.Set;
import java.util.TreeSet;

/** The public face of the document, and nothing else that can be seen from outside. */
public final class FaceTest {
    private static final Due due = new Due();

    private static final String[] CALLS = {
        "int sign(int,int)", "int signs(int,int,long)", "int text(int,int)", "int part(int,int,int,int)",
        "int number(int,long)", "int insert(int,int,int)", "int insertPart(int,int,int,int,int)",
        "int insertSign(int,int,int)", "int delete(int,int,int)", "int deleteAt(int,int)",
        "int replace(int,int,int,int)", "int reverse(int)", "int put(int,int,int)", "int length(int,int)",
        "int at(int,int)", "int size(int)", "int first(int,int,int)", "int last(int,int,int)",
        "int take(int,int,int,int)", "int ahead(int,int)", "int forget(int)", "int textSize(int)",
        "int signAt(int,int)", "int firstSign(int,int,int)", "int lastSign(int,int,int)",
        "int firstText(int,int,int)", "int lastText(int,int,int)", "int region(int,int,int,int,int)",
        "int order(int,int)", "int begins(int,int,int)", "int swap(int,int,int,int)", "int sub(int,int,int,int)",
        "int trim(int,int)", "int repeat(int,int,int)", "int join(int,int,int)", "int split(int,int,int)",
        "int parts()", "int partTo(int,int)", "int joined(int,int)", "int cutter(int,int,int,boolean)",
        "int more(int)", "int left(int)", "int next(int,int)", "int nextBy(int,int,int)", "long digest()"};

    private static final String CONSTANTS =
            "[COUNT=-1004, ENDED=-1006, FULL=-1007, MISSING=-1003, NONE=-1, OUTSIDE=-1002, PLACE=-1005, UNKNOWN=-1001]";

    public static void main(String[] args) throws IllegalAccessException {
        calls();
        constants();
        constructors();
        classes();
        due.end();
    }

    private static void calls() {
        Set<String> seen = new TreeSet<>();
        Set<String> names = new TreeSet<>();
        for (Method method : RowsOfSigns.class.getDeclaredMethods()) {
            if (Modifier.isPublic(method.getModifiers())) {
                due.is(method.getName() + " is static", Modifier.isStatic(method.getModifiers()) ? 1 : 0, 0);
                seen.add(signature(method));
                names.add(method.getName());
            }
        }
        due.is("the calls", seen.toString(), new TreeSet<>(Arrays.asList(CALLS)).toString());
        for (Method method : RowsOfSigns.class.getDeclaredMethods()) {
            if (!Modifier.isPublic(method.getModifiers()) && !method.isSynthetic()) {
                due.is(method.getName() + " is private", Modifier.isPrivate(method.getModifiers()) ? 1 : 0, 1);
                due.is(method.getName() + " bears a public name", names.contains(method.getName()) ? 1 : 0, 0);
            }
        }
    }

    private static String signature(Method method) {
        StringBuilder text = new StringBuilder();
        text.append(method.getReturnType()).append(' ').append(method.getName()).append('(');
        String comma = "";
        for (Class<?> type : method.getParameterTypes()) {
            text.append(comma).append(type);
            comma = ",";
        }
        return text.append(')').toString();
    }

    private static void constants() throws IllegalAccessException {
        Set<String> seen = new TreeSet<>();
        for (Field field : RowsOfSigns.class.getDeclaredFields()) {
            int modifiers = field.getModifiers();
            if (Modifier.isPublic(modifiers)) {
                due.is(field + " is static and final",
                        Modifier.isStatic(modifiers) && Modifier.isFinal(modifiers) ? 1 : 0, 1);
                due.is(field + " is an int", field.getType().toString(), "int");
                seen.add(field.getName() + "=" + field.get(null));
            } else if (!field.isSynthetic()) {
                due.is(field + " is private", Modifier.isPrivate(modifiers) ? 1 : 0, 1);
                due.is(field + " is final, if static",
                        !Modifier.isStatic(modifiers) || Modifier.isFinal(modifiers) ? 1 : 0, 1);
            }
        }
        due.is("the constants", seen.toString(), CONSTANTS);
    }

    private static void constructors() {
        Constructor<?>[] all = RowsOfSigns.class.getDeclaredConstructors();
        due.is("how many constructors", all.length, 1);
        due.is("its parameters", all[0].getParameterCount(), 0);
        due.is("it is public", Modifier.isPublic(all[0].getModifiers()) ? 1 : 0, 1);
    }

    private static void classes() {
        int own = RowsOfSigns.class.getModifiers();
        due.is("the class is public and final", Modifier.isPublic(own) && Modifier.isFinal(own) ? 1 : 0, 1);
        for (Class<?> inside : RowsOfSigns.class.getDeclaredClasses()) {
            int modifiers = inside.getModifiers();
            due.is(inside + " is static", Modifier.isStatic(modifiers) ? 1 : 0, 1);
            due.is(inside + " is not for all",
                    Modifier.isPublic(modifiers) || Modifier.isProtected(modifiers) ? 1 : 0, 0);
        }
    }
}
