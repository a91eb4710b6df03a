import java.lang.reflect.Constructor;
import java.lang.reflect.Field;
import java.lang.reflect.Member;
import java.lang.reflect.Method;
import java.lang.reflect.Modifier;
import java.util.Set;
import java.util.TreeSet;

/** The public face is that of the document, and no more. */
public final class FaceTest {
    private static final String BOUNDS = "IndexOutOfBoundsException";
    private static final String RANGE = "IllegalArgumentException";
    private static final String STATE = "IllegalStateException";
    private static final String[] METHODS = {
        "int cost(int int int) " + BOUNDS + " " + RANGE,
        "int box(int int int) " + BOUNDS + " " + RANGE + " " + STATE,
        "boolean wash(int int) " + BOUNDS + " " + RANGE + " " + STATE,
        "int report(int int int int) " + BOUNDS + " " + RANGE + " " + STATE,
        "int place(int int) " + BOUNDS + " " + RANGE,
        "int count(int int int) " + BOUNDS + " " + RANGE,
        "int days(int int int int) " + BOUNDS + " " + RANGE,
        "void lease(int int int) " + BOUNDS + " " + RANGE + " " + STATE,
        "int free(int) " + RANGE,
        "int payer(int int) " + BOUNDS + " " + RANGE,
        "int quota(int int int) " + BOUNDS + " " + RANGE,
        "int handIn(int) " + BOUNDS + " " + STATE,
        "int damage(int int int) " + BOUNDS + " " + RANGE + " " + STATE,
        "int standard(int int) " + BOUNDS + " " + RANGE,
        "int limit(int) " + RANGE,
        "int mend(int) " + BOUNDS + " " + STATE,
        "int book(int int int) " + BOUNDS + " " + RANGE + " " + STATE,
        "int serve()",
        "int end(int) " + BOUNDS + " " + STATE,
        "int bring(int) " + RANGE + " " + STATE,
        "int brings(int int) " + RANGE + " " + BOUNDS + " " + STATE,
        "int boxIs(int int) " + BOUNDS + " " + RANGE,
        "int lacks(int) " + BOUNDS,
        "int pass(int) " + RANGE + " " + STATE,
    };
    private static final String[] CONSTANTS = {"NONE=-1", "IN=0", "OUT=1", "LOAD=2", "LAND=3", "NOWHERE=10", "ROAD=11",
        "SHIP=12", "LINE=0", "OWNER=1", "CUSTOMER=2"};
    private static final Check CHECK = new Check("FaceTest");

    public static void main(String[] args) throws IllegalAccessException {
        CHECK.same("the class", Modifier.PUBLIC | Modifier.FINAL, BoxPool.class.getModifiers());
        CHECK.same("what it extends", "class java.lang.Object", String.valueOf(BoxPool.class.getSuperclass()));
        CHECK.same("what it implements", 0, BoxPool.class.getInterfaces().length);
        Set<String> names = methods();
        constants();
        Constructor<?>[] constructors = BoxPool.class.getDeclaredConstructors();
        CHECK.same("constructors", 1, constructors.length);
        CHECK.same("the constructor", "public BoxPool()", constructors[0].toString());
        inside(names);
        CHECK.finish();
    }

    private static Set<String> methods() {
        Set<String> names = new TreeSet<>();
        Set<String> seen = new TreeSet<>();
        for (Method method : BoxPool.class.getDeclaredMethods()) {
            if (!Modifier.isPrivate(method.getModifiers())) {
                CHECK.same("the modifiers of " + method.getName(), Modifier.PUBLIC, method.getModifiers());
                seen.add(textOf(method));
                names.add(method.getName());
            }
        }
        CHECK.same("the methods", new TreeSet<>(Set.of(METHODS)).toString(), seen.toString());
        for (Method method : BoxPool.class.getDeclaredMethods()) {
            boolean hidden = Modifier.isPrivate(method.getModifiers());
            CHECK.same("a private " + method.getName(), false, hidden && names.contains(method.getName()));
        }
        return names;
    }

    private static String textOf(Method method) {
        StringBuilder text = new StringBuilder();
        text.append(method.getReturnType()).append(' ').append(method.getName()).append('(');
        String gap = "";
        for (Class<?> parameter : method.getParameterTypes()) {
            text.append(gap).append(parameter);
            gap = " ";
        }
        text.append(')');
        for (Class<?> thrown : method.getExceptionTypes()) {
            text.append(' ').append(thrown.getSimpleName());
        }
        return text.toString();
    }

    private static void constants() throws IllegalAccessException {
        Set<String> seen = new TreeSet<>();
        for (Field field : BoxPool.class.getDeclaredFields()) {
            if (!Modifier.isPrivate(field.getModifiers())) {
                CHECK.same("the modifiers of " + field.getName(), Modifier.PUBLIC | Modifier.STATIC | Modifier.FINAL,
                    field.getModifiers());
                CHECK.same("the type of " + field.getName(), "int", field.getType().toString());
                seen.add(field.getName() + "=" + field.getInt(null));
            }
            if (Modifier.isStatic(field.getModifiers())) {
                CHECK.same(field.getName() + " is final", true, Modifier.isFinal(field.getModifiers()));
            }
        }
        CHECK.same("the constants", new TreeSet<>(Set.of(CONSTANTS)).toString(), seen.toString());
    }

    private static void inside(Set<String> names) {
        for (Class<?> inner : BoxPool.class.getDeclaredClasses()) {
            int modifiers = inner.getModifiers();
            CHECK.same(inner.getSimpleName() + " is static", true, Modifier.isStatic(modifiers));
            CHECK.same(inner.getSimpleName() + " is private", true, Modifier.isPrivate(modifiers));
            for (Method method : inner.getDeclaredMethods()) {
                CHECK.same("a " + method.getName() + " inside", false, names.contains(method.getName()));
                CHECK.same("parameters of " + method.getName(), true, method.getParameterCount() <= 7);
            }
            for (Field field : inner.getDeclaredFields()) {
                CHECK.same(field.getName() + " is state", false, isStatic(field));
            }
        }
    }

    private static boolean isStatic(Member member) {
        return Modifier.isStatic(member.getModifiers()) && !member.isSynthetic();
    }
}
