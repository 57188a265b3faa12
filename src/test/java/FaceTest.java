import java.lang.reflect.Constructor;
import java.lang.reflect.Field;
import java.lang.reflect.Method;
import java.lang.reflect.Modifier;
import java.util.TreeSet;

/** The class's face: what the document lists, and no other member that is not private. */
public final class FaceTest {
    private static final String INDEX = " IndexOutOfBoundsException";
    private static final String ARGUMENT = " IllegalArgumentException";
    private static final String STATE = " IllegalStateException";
    private static final String[] METHODS = {
        "int joint(int,int)" + ARGUMENT + STATE,
        "void move(int,int,int)" + INDEX + ARGUMENT,
        "boolean pin(int,boolean)" + INDEX,
        "int member(int,int,int)" + INDEX + ARGUMENT + STATE,
        "int remove(int)" + INDEX,
        "int rank()",
        "int motions()",
        "int stresses()",
        "boolean isRedundant(int)" + INDEX,
        "int flex(int,int,boolean)" + INDEX,
        "int balance(int,int)" + INDEX,
        "int rankAt(int)" + ARGUMENT,
        "int kept()",
        "boolean isKept(int)" + INDEX,
        "int block(int)" + INDEX,
        "int lacks()",
        "boolean isGlobal()",
        "int grow(int,int,int,int)" + INDEX + ARGUMENT + STATE,
        "int split(int,int,int,int)" + INDEX + ARGUMENT + STATE,
        "int undo()" + STATE,
        "int stress(int,int)" + INDEX + ARGUMENT,
        "int unbalanced()",
        "boolean isProper()",
        "int matrix()",
        "boolean reaches(int,int,int,int)" + ARGUMENT,
        "int folds(int,int,int,int,int)" + ARGUMENT,
        "int range(int,int)" + INDEX + ARGUMENT,
        "int places(int)" + ARGUMENT,
        "int place(int,int)" + INDEX + ARGUMENT,
        "int ofJoint(int,int)" + INDEX + ARGUMENT,
    };
    private static final String[] CONSTANTS = {
        "NONE = -1", "BAR = 0", "CABLE = 1", "STRUT = 2",
        "FLAT = 0", "NOT_ROUND = 1", "NOT_EVEN = 2", "NOT_TOLD = 3",
    };
    private static final Check CHECK = new Check();

    private FaceTest() {
    }

    public static void main(String[] args) throws IllegalAccessException {
        Class<?> face = Stresswork.class;
        CHECK.same("public final", Modifier.toString(face.getModifiers()), "the class's modifiers");
        CHECK.same(1, face.getDeclaredConstructors().length, "constructors");
        for (Constructor<?> made : face.getDeclaredConstructors()) {
            CHECK.same("public Stresswork()", made.toString(), "the constructor");
        }
        TreeSet<String> names = new TreeSet<>();
        CHECK.same(sorted(METHODS), methods(face, names), "the methods");
        CHECK.same(sorted(CONSTANTS), constants(face), "the constants");
        noNameTwice(face, names);
        CHECK.end("FaceTest");
    }

    private static TreeSet<String> sorted(String[] texts) {
        TreeSet<String> set = new TreeSet<>();
        for (String text : texts) {
            set.add(text);
        }
        return set;
    }

    private static TreeSet<String> methods(Class<?> face, TreeSet<String> names) {
        TreeSet<String> set = new TreeSet<>();
        for (Method method : face.getDeclaredMethods()) {
            if (!Modifier.isPrivate(method.getModifiers())) {
                set.add(signature(method));
                names.add(method.getName());
                CHECK.same("public", Modifier.toString(method.getModifiers()), "modifiers of " + method.getName());
            }
        }
        return set;
    }

    private static String signature(Method method) {
        StringBuilder text = new StringBuilder();
        text.append(method.getReturnType().getSimpleName()).append(' ').append(method.getName()).append('(');
        for (Class<?> type : method.getParameterTypes()) {
            text.append(text.charAt(text.length() - 1) == '(' ? "" : ",").append(type.getSimpleName());
        }
        text.append(')');
        for (Class<?> type : method.getExceptionTypes()) {
            text.append(' ').append(type.getSimpleName());
        }
        return text.toString();
    }

    private static TreeSet<String> constants(Class<?> face) throws IllegalAccessException {
        TreeSet<String> set = new TreeSet<>();
        for (Field field : face.getDeclaredFields()) {
            if (!Modifier.isPrivate(field.getModifiers())) {
                CHECK.same("public static final", Modifier.toString(field.getModifiers()), field.getName());
                set.add(field.getName() + " = " + field.getInt(null));
            }
        }
        return set;
    }

    private static void noNameTwice(Class<?> face, TreeSet<String> names) {
        for (Method method : face.getDeclaredMethods()) {
            if (Modifier.isPrivate(method.getModifiers())) {
                CHECK.same(false, names.contains(method.getName()), "a private method named " + method.getName());
            }
        }
        for (Class<?> inside : face.getDeclaredClasses()) {
            CHECK.same(true, Modifier.isStatic(inside.getModifiers()), inside.getName() + " is static");
            CHECK.same(false, Modifier.isPublic(inside.getModifiers()), inside.getName() + " is public");
        }
    }
}
