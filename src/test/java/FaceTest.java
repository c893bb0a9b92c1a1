import java.lang.reflect.Constructor;
import java.lang.reflect.Field;
import java.lang.reflect.Method;
import java.lang.reflect.Modifier;
import java.util.Set;
import java.util.TreeSet;

/** The document's public face, and rule 1 of LANGUAGE.md: nothing else can be seen. */
public final class FaceTest {
    private static final String ARGUMENT = " throws IllegalArgumentException";
    private static final String BOTH = ARGUMENT + " IllegalStateException";
    private static final Set<String> FACE = Set.of(
            "void link(int int int int int int)" + BOTH, "int write(int int int)" + BOTH, "int tick(int)",
            "int read(int int)" + ARGUMENT, "int byteOf(int)", "int port(int int)",
            "boolean harm(int int int int)", "boolean babble(int int int int int)", "int onLine(int int int)",
            "int waiting(int int int)", "int fragments(int)", "int account(int int)", "int dropped(int)",
            "int bound(int int)");

    public static void main(String[] args) {
        Due due = new Due("face");
        Class<?> face = TwinNetwork.class;
        due.is("the class's modifiers", face.getModifiers(), Modifier.PUBLIC | Modifier.FINAL);
        Set<String> seen = new TreeSet<>();
        Set<String> names = new TreeSet<>();
        for (Method method : face.getDeclaredMethods()) {
            if (!Modifier.isPrivate(method.getModifiers())) {
                seen.add(told(method));
                names.add(method.getName());
                due.is("the modifiers of " + method.getName(), method.getModifiers(), Modifier.PUBLIC);
            }
        }
        due.isTrue("the methods " + seen, seen.equals(FACE));
        for (Field field : face.getDeclaredFields()) {
            boolean isNone = field.getName().equals("NONE");
            due.isTrue("the field " + field.getName(), isNone == Modifier.isPublic(field.getModifiers())
                    && isNone != Modifier.isPrivate(field.getModifiers()));
            due.isTrue("the static field " + field.getName() + " is final",
                    !Modifier.isStatic(field.getModifiers()) || Modifier.isFinal(field.getModifiers()));
        }
        Constructor<?>[] constructors = face.getDeclaredConstructors();
        due.is("the constructors", constructors.length, 1);
        due.is("the constructor's modifiers", constructors[0].getModifiers(), Modifier.PUBLIC);
        due.is("the constructor's parameters", constructors[0].getParameterCount(), 0);
        classesInside(due, face, names);
        due.end();
    }

    private static void classesInside(Due due, Class<?> face, Set<String> names) {
        for (Class<?> inside : face.getDeclaredClasses()) {
            String name = inside.getSimpleName();
            due.isTrue(name + " is static", Modifier.isStatic(inside.getModifiers()));
            due.isFalse(name + " is public", Modifier.isPublic(inside.getModifiers()));
            due.isFalse(name + " is protected", Modifier.isProtected(inside.getModifiers()));
            for (Method method : inside.getDeclaredMethods()) {
                due.isFalse(name + "." + method.getName() + " bears a name of the face",
                        names.contains(method.getName()));
            }
        }
        for (Method method : face.getDeclaredMethods()) {
            due.isFalse(method.getName() + " is private and bears a name of the face",
                    Modifier.isPrivate(method.getModifiers()) && names.contains(method.getName()));
        }
    }

    private static String told(Method method) {
        StringBuilder told = new StringBuilder(method.getReturnType().getSimpleName() + " " + method.getName() + "(");
        for (Class<?> type : method.getParameterTypes()) {
            told.append(told.charAt(told.length() - 1) == '(' ? "" : " ").append(type.getSimpleName());
        }
        told.append(")");
        Class<?>[] thrown = method.getExceptionTypes();
        for (int i = 0; i < thrown.length; i++) {
            told.append(i == 0 ? " throws " : " ").append(thrown[i].getSimpleName());
        }
        return told.toString();
    }
}
