import java.lang.reflect.Constructor;
import java.lang.reflect.Field;
import java.lang.reflect.Method;
import java.lang.reflect.Modifier;
import java.util.ArrayList;
import java.util.Collections;
import java.util.List;

/** The public face: what the document lists, and nothing else that is not private. */
public final class FaceTests {
    private static final String[] FACE = {
        "double kept()",
        "int angle(int,int,int)",
        "int cell(int,int,int)",
        "int count(int)",
        "int cut(int,int,int,int,int)",
        "int depth(int,int,int,int)",
        "int dress()",
        "int flaw(int,int,int,int,int)",
        "int flawIn(int,int,int)",
        "int plane(int,int,int)",
        "int polish(int,int)",
        "int rid(int,int,int)",
        "int saw(int,int,int,int,int)",
        "int stone(int,int)",
        "int take(int,int,int)",
        "int would(int,int,int,int,int,int)",
        "long digest()",
    };

    private FaceTests() {
    }

    public static void main(String[] args) {
        Check.same("GemCut is public and final", Modifier.PUBLIC | Modifier.FINAL, GemCut.class.getModifiers());
        List<String> open = new ArrayList<>();
        List<String> faceNames = new ArrayList<>();
        for (Method m : GemCut.class.getDeclaredMethods()) {
            if (!Modifier.isPrivate(m.getModifiers())) {
                Check.same(m + " is public and no more", Modifier.PUBLIC, m.getModifiers());
                open.add(shape(m));
                faceNames.add(m.getName());
            }
        }
        Collections.sort(open);
        Check.same("the methods that are not private", List.of(FACE), open);
        for (Method m : GemCut.class.getDeclaredMethods()) {
            if (Modifier.isPrivate(m.getModifiers())) {
                Check.same(m + " bears the name of a public one", false, faceNames.contains(m.getName()));
            }
        }
        for (Field f : GemCut.class.getDeclaredFields()) {
            Check.same(f + " is private", true, Modifier.isPrivate(f.getModifiers()));
        }
        Constructor<?>[] made = GemCut.class.getDeclaredConstructors();
        Check.same("constructors", 1, made.length);
        Check.same("its modifiers", Modifier.PUBLIC, made[0].getModifiers());
        Check.same("its parameters", 0, made[0].getParameterCount());
        for (Class<?> c : GemCut.class.getDeclaredClasses()) {
            Check.same(c + " is static", true, Modifier.isStatic(c.getModifiers()));
        }
        Check.end();
    }

    private static String shape(Method m) {
        StringBuilder text = new StringBuilder();
        text.append(m.getReturnType().getName()).append(' ').append(m.getName()).append('(');
        Class<?>[] types = m.getParameterTypes();
        for (int i = 0; i < types.length; i++) {
            text.append(i == 0 ? "" : ",").append(types[i].getName());
        }
        return text.append(')').toString();
    }
}
