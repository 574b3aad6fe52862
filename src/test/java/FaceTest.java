import java.lang.reflect.Constructor;
import java.lang.reflect.Field;
import java.lang.reflect.Method;
import java.lang.reflect.Modifier;
import java.util.List;
import java.util.Set;
import java.util.TreeSet;

/** The public face is that of the document and no more. */
final class FaceTest {
    private static final Due due = new Due();

    public static void main(String[] args) throws Exception {
        face();
        constants();
        due.end();
    }

    private static void face() {
        Set<String> want = new TreeSet<>(List.of(
            "boolean write(int)", "int branch()", "boolean method(int,int,boolean)",
            "int add(int,int,int,int)", "boolean change(int,int,int,int,int)",
            "int row(int,int,int,int,int)", "int check(int)", "int kindAt(int,int,int)",
            "int run(int,int,int,int,int,int)", "int ran(int)", "int trace(int)",
            "int compare(int,int,int,int)", "int unfold(int,int)", "int inline(int,int)",
            "int code(int,int,int)", "int table(int,int,int)"));
        Set<String> names = new TreeSet<>();
        Set<String> got = new TreeSet<>();
        for (Method method : FrameForge.class.getDeclaredMethods()) {
            if (Modifier.isPrivate(method.getModifiers())) {
                continue;
            }
            got.add(signature(method));
            names.add(method.getName());
        }
        due.yes("the methods " + got, got.equals(want));
        noSecondUseOf(names);
        Constructor<?>[] made = FrameForge.class.getDeclaredConstructors();
        due.is("constructors", 1, made.length);
        due.yes("a public one without arguments", Modifier.isPublic(made[0].getModifiers()) && made[0].getParameterCount() == 0);
        due.yes("final and public", Modifier.isFinal(FrameForge.class.getModifiers()) && Modifier.isPublic(FrameForge.class.getModifiers()));
    }

    private static String signature(Method method) {
        StringBuilder text = new StringBuilder(method.getReturnType() + " " + method.getName() + "(");
        for (int i = 0; i < method.getParameterCount(); i++) {
            text.append(i == 0 ? "" : ",").append(method.getParameterTypes()[i]);
        }
        return text.append(")").toString();
    }

    private static void noSecondUseOf(Set<String> names) {
        for (Class<?> inside : FrameForge.class.getDeclaredClasses()) {
            due.yes(inside + " is static", Modifier.isStatic(inside.getModifiers()));
            for (Method method : inside.getDeclaredMethods()) {
                due.no(method + " bears a public name", names.contains(method.getName()));
                due.yes(method + " takes at most seven", method.getParameterCount() <= 7);
            }
        }
        for (Method method : FrameForge.class.getDeclaredMethods()) {
            if (Modifier.isPrivate(method.getModifiers())) {
                due.no(method + " bears a public name", names.contains(method.getName()));
            }
        }
    }

    private static void constants() throws Exception {
        Set<String> got = new TreeSet<>();
        for (Field field : FrameForge.class.getDeclaredFields()) {
            if (!Modifier.isPrivate(field.getModifiers())) {
                got.add(field.getName() + " " + field.getInt(null));
            }
            due.yes(field + " is final if static", !Modifier.isStatic(field.getModifiers()) || Modifier.isFinal(field.getModifiers()));
        }
        Set<String> want = new TreeSet<>(List.of("REFUSED -1", "NONE -2", "FULL -3", "WRONG -4", "STOPPED -5"));
        due.yes("the constants " + got, got.equals(want));
    }
}
