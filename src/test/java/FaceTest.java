import java.lang.reflect.Constructor;
import java.lang.reflect.Field;
import java.lang.reflect.Member;
import java.lang.reflect.Method;
import java.lang.reflect.Modifier;
import java.util.ArrayList;
import java.util.List;
import java.util.TreeSet;

/** The class has the document's public face and no other member that can be seen from outside. */
public final class FaceTest {
    private static final Check CHECK = new Check("FaceTest");
    private static final String NO_BASKET = " IndexOutOfBoundsException";
    private static final String ILLEGAL = " IllegalArgumentException";

    private static final List<String> METHODS = List.of(
        "boolean add int int" + NO_BASKET + ILLEGAL,
        "int addLine int int int int" + NO_BASKET + ILLEGAL,
        "int empty int" + NO_BASKET,
        "int merge int int" + NO_BASKET,
        "int pass int" + ILLEGAL,
        "int clock",
        "int plain int" + NO_BASKET,
        "int plainCommon int int" + NO_BASKET,
        "int dateOf int int" + NO_BASKET + ILLEGAL,
        "int hash int" + ILLEGAL,
        "int most",
        "int kept int" + NO_BASKET,
        "int keptAt int int" + NO_BASKET,
        "int byLeast int" + NO_BASKET,
        "int together int int" + NO_BASKET,
        "int common int int" + NO_BASKET,
        "int without int int" + NO_BASKET,
        "int register int int" + NO_BASKET,
        "long byRegisters int" + NO_BASKET,
        "long recent int int" + NO_BASKET + ILLEGAL,
        "int level int" + NO_BASKET,
        "int sampled int" + NO_BASKET,
        "int sampledAt int int" + NO_BASKET,
        "int bySample int" + NO_BASKET);

    public static void main(String[] args) {
        Class<?> face = DistinctDale.class;
        CHECK.due("public and final", Modifier.isPublic(face.getModifiers()) && Modifier.isFinal(face.getModifiers()),
            true);
        CHECK.due("NONE", DistinctDale.NONE, -1);
        methods(face);
        constructors(face);
        fields(face);
        classesInside(face);
        CHECK.end();
    }

    private static void methods(Class<?> face) {
        List<String> seen = new ArrayList<>();
        for (Method method : face.getDeclaredMethods()) {
            if (isSeen(method)) {
                seen.add(told(method));
                CHECK.due(method + " is public and not static",
                    Modifier.isPublic(method.getModifiers()) && !Modifier.isStatic(method.getModifiers()), true);
            }
        }
        CHECK.text("the methods", new TreeSet<>(seen).toString(), new TreeSet<>(METHODS).toString());
        CHECK.due("the number of methods", seen.size(), METHODS.size());
    }

    private static void constructors(Class<?> face) {
        CHECK.due("the number of constructors", face.getDeclaredConstructors().length, 1);
        for (Constructor<?> constructor : face.getDeclaredConstructors()) {
            CHECK.text("the constructor", constructor.toString(), "public DistinctDale(int)");
        }
    }

    private static void fields(Class<?> face) {
        for (Field field : face.getDeclaredFields()) {
            if (isSeen(field)) {
                CHECK.text("a field", field.toString(), "public static final int DistinctDale.NONE");
            }
        }
    }

    /** They are static and not public, and none of their methods bears the name of one of the face. */
    private static void classesInside(Class<?> face) {
        List<String> names = new ArrayList<>();
        for (String method : METHODS) {
            names.add(method.split(" ")[1]);
        }
        for (Class<?> inside : face.getDeclaredClasses()) {
            int modifiers = inside.getModifiers();
            CHECK.due(inside + " is static and not public",
                Modifier.isStatic(modifiers) && !Modifier.isPublic(modifiers) && !Modifier.isProtected(modifiers), true);
            for (Method method : inside.getDeclaredMethods()) {
                CHECK.due(method + " bears a name of the face", names.contains(method.getName()), false);
            }
        }
        for (Method method : face.getDeclaredMethods()) {
            if (!isSeen(method)) {
                CHECK.due(method + " bears a name of the face", names.contains(method.getName()), false);
            }
        }
    }

    private static boolean isSeen(Member member) {
        return !Modifier.isPrivate(member.getModifiers()) && !member.isSynthetic();
    }

    private static String told(Method method) {
        StringBuilder text = new StringBuilder(method.getReturnType() + " " + method.getName());
        for (Class<?> parameter : method.getParameterTypes()) {
            text.append(" ").append(parameter);
        }
        for (Class<?> thrown : method.getExceptionTypes()) {
            text.append(" ").append(thrown.getSimpleName());
        }
        return text.toString();
    }
}
