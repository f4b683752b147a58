import java.lang.reflect.Constructor;
import java.lang.reflect.Executable;
import java.lang.reflect.Field;
import java.lang.reflect.Method;
import java.lang.reflect.Modifier;
import java.util.Arrays;
import java.util.Set;
import java.util.TreeSet;

/** The class's face: what the document lists, public, and nothing else to be seen from outside. */
public final class FaceTest {
    private static final Check CHECK = new Check();

    private static final String[] METHODS = {
        "boolean close(int, int, boolean)", "boolean gate(int)", "int ride(int, int, int, int, int)",
        "int fits(int, int, int, boolean)", "boolean lay(int, int, int, boolean)", "boolean take(int)",
        "int layAll()", "int orders()", "int order(int)", "boolean sick(int)", "int end()",
        "int feed(long, long, long)", "int text()", "boolean bears(int, int)", "int lit(int)",
        "boolean rate(int)", "boolean share(int, int)", "int rent(int)",
        "int change(int, int, int, int)", "int look(int, int)", "int cell(int, int)", "int count(int)"};

    public static void main(String[] args) {
        CHECK.due("NONE", FairGround.NONE, -1);
        int modifiers = FairGround.class.getModifiers();
        CHECK.yes("public and final", Modifier.isPublic(modifiers) && Modifier.isFinal(modifiers));
        methods();
        constructorsAndFields();
        nestedClasses();
        CHECK.finish();
    }

    private static void methods() {
        Set<String> due = new TreeSet<>(Arrays.asList(METHODS));
        Set<String> names = new TreeSet<>();
        for (Method method : FairGround.class.getDeclaredMethods()) {
            if (Modifier.isPublic(method.getModifiers())) {
                names.add(method.getName());
                CHECK.yes("due: " + signature(method), due.remove(signature(method)));
                CHECK.no("static: " + signature(method), Modifier.isStatic(method.getModifiers()));
            }
        }
        CHECK.due("missing: " + due, due.size(), 0);
        for (Method method : FairGround.class.getDeclaredMethods()) {
            hidden(method);
            boolean isPublic = Modifier.isPublic(method.getModifiers());
            CHECK.no("private with a public name: " + method, !isPublic && names.contains(method.getName()));
        }
    }

    private static String signature(Method method) {
        StringBuilder parameters = new StringBuilder();
        for (Class<?> type : method.getParameterTypes()) {
            parameters.append(parameters.length() == 0 ? "" : ", ").append(type.getSimpleName());
        }
        return method.getReturnType().getSimpleName() + " " + method.getName() + "(" + parameters + ")";
    }

    private static void hidden(Executable member) {
        int modifiers = member.getModifiers();
        CHECK.yes("public or private: " + member, member.isSynthetic()
                || Modifier.isPublic(modifiers) || Modifier.isPrivate(modifiers));
    }

    private static void constructorsAndFields() {
        Constructor<?>[] constructors = FairGround.class.getDeclaredConstructors();
        CHECK.due("constructors", constructors.length, 1);
        CHECK.due("its parameters", constructors[0].getParameterCount(), 0);
        CHECK.yes("public", Modifier.isPublic(constructors[0].getModifiers()));
        for (Field field : FairGround.class.getDeclaredFields()) {
            int modifiers = field.getModifiers();
            boolean isConstant = field.getName().equals("NONE");
            CHECK.yes("private: " + field, isConstant || Modifier.isPrivate(modifiers));
            CHECK.no("static, not final: " + field, Modifier.isStatic(modifiers) && !Modifier.isFinal(modifiers));
        }
    }

    private static void nestedClasses() {
        for (Class<?> nested : FairGround.class.getDeclaredClasses()) {
            int modifiers = nested.getModifiers();
            CHECK.yes("static: " + nested, Modifier.isStatic(modifiers));
            CHECK.no("seen: " + nested, Modifier.isPublic(modifiers) || Modifier.isProtected(modifiers));
        }
    }
}
