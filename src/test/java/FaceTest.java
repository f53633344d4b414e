import java.lang.reflect.Constructor;
import java.lang.reflect.Field;
import java.lang.reflect.Method;
import java.lang.reflect.Modifier;
import java.util.HashSet;
import java.util.Set;

/** The face is the document's, and what reflection can see of LANGUAGE.md is kept. */
public final class FaceTest {
    private static final Set<String> METHODS = Set.of(
        "int box(int,int,int)", "int put(int,int)", "int glue(int,int,int,int,int)", "int kern(int)",
        "int rule(int,int,int)", "int leaders(int,int)", "int pack(int)", "int unpack(int)",
        "int told(int,int)", "int item(int,int,int)", "int size()", "long natural()", "int drop()",
        "int boxes()");
    private static final Set<String> CONSTANTS = Set.of("BAD", "FULL", "NO", "RUNNING");

    private static final Checks CHECKS = new Checks();

    public static void main(String[] args) {
        Class<?> face = BoxGlue.class;
        CHECKS.about("the face");
        CHECKS.due("modifiers", face.getModifiers(), Modifier.PUBLIC | Modifier.FINAL);
        CHECKS.due("BAD", BoxGlue.BAD, -1);
        CHECKS.due("FULL", BoxGlue.FULL, -2);
        CHECKS.due("NO", BoxGlue.NO, -3);
        CHECKS.due("RUNNING", BoxGlue.RUNNING, -1000000);
        lookAtMethods(face);
        lookAtFields(face);
        lookAtConstructors(face);
        lookAtClassesInside(face);
        CHECKS.end();
    }

    private static void holds(String what, boolean is) {
        CHECKS.due(what, is ? 1 : 0, 1);
    }

    private static void lookAtMethods(Class<?> face) {
        Set<String> open = new HashSet<>();
        Set<String> openNames = new HashSet<>();
        for (Method method : face.getDeclaredMethods()) {
            if (!Modifier.isPrivate(method.getModifiers())) {
                open.add(signature(method));
                openNames.add(method.getName());
                holds(method + " is public", Modifier.isPublic(method.getModifiers()));
                holds(method + " throws nothing", method.getExceptionTypes().length == 0);
            }
        }
        holds("methods are " + open, open.equals(METHODS));
        for (Method method : face.getDeclaredMethods()) {
            boolean hidden = Modifier.isPrivate(method.getModifiers());
            holds(method + " has a name of its own", !hidden || !openNames.contains(method.getName()));
        }
    }

    private static String signature(Method method) {
        StringBuilder text = new StringBuilder();
        text.append(method.getReturnType()).append(' ').append(method.getName()).append('(');
        String between = "";
        for (Class<?> type : method.getParameterTypes()) {
            text.append(between).append(type);
            between = ",";
        }
        return text.append(')').toString();
    }

    private static void lookAtFields(Class<?> face) {
        Set<String> open = new HashSet<>();
        for (Field field : face.getDeclaredFields()) {
            if (!Modifier.isPrivate(field.getModifiers())) {
                open.add(field.getName());
            }
        }
        holds("constants are " + open, open.equals(CONSTANTS));
        lookAtStatics(face);
    }

    private static void lookAtStatics(Class<?> type) {
        int own = 0;
        for (Field field : type.getDeclaredFields()) {
            if (Modifier.isStatic(field.getModifiers())) {
                holds(field + " is a constant", Modifier.isFinal(field.getModifiers())
                    && (field.getType().isPrimitive() || field.getType() == String.class));
            } else {
                own++;
            }
        }
        holds(type + " has few fields", own <= 20);
    }

    private static void lookAtConstructors(Class<?> face) {
        Constructor<?>[] all = face.getDeclaredConstructors();
        CHECKS.due("constructors", all.length, 1);
        holds("it is public", Modifier.isPublic(all[0].getModifiers()));
        CHECKS.due("its parameters", all[0].getParameterCount(), 0);
    }

    private static void lookAtClassesInside(Class<?> face) {
        Class<?>[] inside = face.getDeclaredClasses();
        holds("few classes", inside.length < 12);
        for (Class<?> type : inside) {
            int modifiers = type.getModifiers();
            holds(type + " is static", Modifier.isStatic(modifiers));
            holds(type + " is hidden", !Modifier.isPublic(modifiers) && !Modifier.isProtected(modifiers));
            lookAtStatics(type);
            for (Method method : type.getDeclaredMethods()) {
                holds(method + " takes seven at most", method.getParameterCount() <= 7);
            }
            for (Constructor<?> constructor : type.getDeclaredConstructors()) {
                holds(constructor + " takes seven at most", constructor.getParameterCount() <= 7);
            }
        }
    }
}
