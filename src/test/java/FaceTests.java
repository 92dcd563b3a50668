import java.lang.reflect.Constructor;
import java.lang.reflect.Field;
import java.lang.reflect.Method;
import java.lang.reflect.Modifier;
import java.util.ArrayList;
import java.util.Collections;
import java.util.List;

/** The public face: what the document lists, and nothing else that is not private. */
public final class FaceTests {
    private static final String BOUNDS = " throws IndexOutOfBoundsException";
    private static final String ARGUMENT = " throws IllegalArgumentException";
    private static final String BOUNDS_ARGUMENT = BOUNDS + ", IllegalArgumentException";
    private static final String BOUNDS_STATE = BOUNDS + ", IllegalStateException";
    private static final String ALL_THREE = BOUNDS_ARGUMENT + ", IllegalStateException";

    private static final String[] FACE = {
        "double kept()",
        "int angle(int,int,int)" + BOUNDS,
        "int cell(int,int,int)" + BOUNDS,
        "int count(int)" + BOUNDS,
        "int cut(int,int,int,int,int)" + ALL_THREE,
        "int depth(int,int,int,int)" + ALL_THREE,
        "int dress()",
        "int flaw(int,int,int,int,int)" + ALL_THREE,
        "int flawIn(int,int,int)" + BOUNDS,
        "int plane(int,int,int)" + BOUNDS,
        "int polish(int,int)" + BOUNDS_STATE,
        "int rid(int,int,int)" + BOUNDS,
        "int saw(int,int,int,int,int)" + ALL_THREE,
        "int stone(int,int)" + BOUNDS,
        "int take(int,int,int)" + ARGUMENT,
        "int would(int,int,int,int,int,int)" + BOUNDS_ARGUMENT,
        "long digest()",
    };

    private FaceTests() {
    }

    public static void main(String[] args) {
        Check.same("GemCut is public and final", Modifier.PUBLIC | Modifier.FINAL, GemCut.class.getModifiers());
        List<String> open = new ArrayList<>();
        List<String> faceNames = new ArrayList<>();
        for (Method m : GemCut.class.getDeclaredMethods()) {
            if (!Modifier.isPrivate(m.getModifiers())) {
                Check.same(m + " is public and no more", Modifier.PUBLIC, m.getModifiers());
                open.add(shape(m));
                faceNames.add(m.getName());
            }
        }
        Collections.sort(open);
        Check.same("the methods that are not private", List.of(FACE), open);
        for (Method m : GemCut.class.getDeclaredMethods()) {
            if (Modifier.isPrivate(m.getModifiers())) {
                Check.same(m + " bears the name of a public one", false, faceNames.contains(m.getName()));
            }
        }
        for (Field f : GemCut.class.getDeclaredFields()) {
            Check.same(f + " is private", true, Modifier.isPrivate(f.getModifiers()));
        }
        Constructor<?>[] made = GemCut.class.getDeclaredConstructors();
        Check.same("constructors", 1, made.length);
        Check.same("its modifiers", Modifier.PUBLIC, made[0].getModifiers());
        Check.same("its parameters", 0, made[0].getParameterCount());
        Check.same("its exceptions", 0, made[0].getExceptionTypes().length);
        for (Class<?> c : GemCut.class.getDeclaredClasses()) {
            int shown = c.getModifiers() & (Modifier.PUBLIC | Modifier.PROTECTED);
            Check.same(c + " is private or package-visible", 0, shown);
            Check.same(c + " is static", true, Modifier.isStatic(c.getModifiers()));
        }
        Check.end();
    }

    private static String shape(Method m) {
        StringBuilder text = new StringBuilder();
        text.append(m.getReturnType().getName()).append(' ').append(m.getName()).append('(');
        Class<?>[] types = m.getParameterTypes();
        for (int i = 0; i < types.length; i++) {
            text.append(i == 0 ? "" : ",").append(types[i].getName());
        }
        text.append(')');
        Class<?>[] thrown = m.getExceptionTypes();
        for (int i = 0; i < thrown.length; i++) {
            text.append(i == 0 ? " throws " : ", ").append(thrown[i].getSimpleName());
        }
        return text.toString();
    }
}
