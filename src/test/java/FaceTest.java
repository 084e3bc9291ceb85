import java.lang.reflect.Constructor;
import java.lang.reflect.Field;
import java.lang.reflect.Member;
import java.lang.reflect.Method;
import java.lang.reflect.Modifier;
import java.util.Arrays;
import java.util.Set;
import java.util.TreeSet;

/** The public face, and rule 1 and 5 of LANGUAGE.md: no more than the face can be seen. */
public final class FaceTest {
    public static void main(String[] args) {
        Class<?> face = GuardedCalls.class;
        Check.due("modifiers", face.getModifiers(), Modifier.PUBLIC | Modifier.FINAL);
        Check.due("package", face.getPackageName(), "");
        Check.due("class above", face.getSuperclass(), Object.class);
        Check.due("interfaces", face.getInterfaces().length, 0);
        visibleMembers(face);
        exceptionsOfCall(face);
        for (Class<?> inside : face.getDeclaredClasses()) {
            Check.due(inside + " is static", Modifier.isStatic(inside.getModifiers()), true);
            Check.due(inside + " is hidden",
                    inside.getModifiers() & (Modifier.PUBLIC | Modifier.PROTECTED), 0);
            staticFieldsAreFinal(inside);
        }
        staticFieldsAreFinal(face);
        Check.finish();
    }

    private static void visibleMembers(Class<?> face) {
        Set<String> want = new TreeSet<>(Arrays.asList(
                "new()",
                "boolean breaker(int, int, int, int)",
                "boolean trips(double, double, int)",
                "boolean bulkhead(int)",
                "boolean use(int)",
                "boolean limiter(int, int, int)",
                "boolean retry(int, int)",
                "boolean backoff(double, double, double)",
                "boolean timer(int)",
                "int lay(int)",
                "int strip()",
                "boolean outcome(int, int, int)",
                "boolean pass(int)",
                "int call()",
                "double failing()",
                "double sluggish()",
                "int tell(int)",
                "int event(int)"));
        Set<String> got = new TreeSet<>();
        for (Constructor<?> maker : face.getDeclaredConstructors()) {
            addVisible(got, maker, "new" + parameters(maker.getParameterTypes()));
        }
        for (Method method : face.getDeclaredMethods()) {
            addVisible(got, method, method.getReturnType().getSimpleName() + " " + method.getName()
                    + parameters(method.getParameterTypes()));
        }
        for (Field field : face.getDeclaredFields()) {
            addVisible(got, field, "field " + field.getName());
        }
        Check.due("the face", got, want);
    }

    private static void addVisible(Set<String> names, Member member, String name) {
        if (Modifier.isPrivate(member.getModifiers())) {
            return;
        }
        int modifiers = member.getModifiers() & ~Modifier.FINAL;
        names.add(modifiers == Modifier.PUBLIC ? name : "with modifiers " + modifiers + ": " + name);
    }

    private static String parameters(Class<?>[] types) {
        StringBuilder list = new StringBuilder();
        for (Class<?> type : types) {
            list.append(list.length() == 0 ? "" : ", ").append(type.getSimpleName());
        }
        return "(" + list + ")";
    }

    private static void exceptionsOfCall(Class<?> face) {
        for (Method method : face.getDeclaredMethods()) {
            StringBuilder names = new StringBuilder();
            for (Class<?> type : method.getExceptionTypes()) {
                names.append(type.getSimpleName()).append(' ');
            }
            Check.due("throws of " + method.getName(), names.toString(),
                    method.getName().equals("call")
                            ? "IllegalStateException IndexOutOfBoundsException NoSuchElementException "
                                    + "ArithmeticException IllegalArgumentException UnsupportedOperationException "
                            : "");
        }
    }

    private static void staticFieldsAreFinal(Class<?> any) {
        for (Field field : any.getDeclaredFields()) {
            if (Modifier.isStatic(field.getModifiers())) {
                Check.due(field + " is final", Modifier.isFinal(field.getModifiers()), true);
            }
        }
    }
}
