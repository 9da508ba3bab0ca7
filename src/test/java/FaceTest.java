import java.lang.reflect.Constructor;
import java.lang.reflect.Field;
import java.lang.reflect.Method;
import java.lang.reflect.Modifier;
import java.util.Arrays;
import java.util.Set;
import java.util.TreeSet;

/** The public face is the document's and nothing else (LANGUAGE.md, rules 1 and 5). */
public final class FaceTest {
    private static final String[] METHODS = {
        "about(int,int)", "check()", "force(int)", "formula(int,int,int)", "formulas()", "hangs(int,int)",
        "head(int)", "instead(int,int,int)", "lay(int,int,int,int,int,int)", "sound(int)", "take(int)",
        "told(int)", "truths(int)", "value(int,int)"
    };

    public static void main(String[] args) {
        Due due = new Due();
        due.part("face");
        due.is("public and final", Modifier.isPublic(BoxProofs.class.getModifiers())
            && Modifier.isFinal(BoxProofs.class.getModifiers()) ? 1 : 0, 1);
        methods(due);
        fields(due);
        Constructor<?>[] constructors = BoxProofs.class.getDeclaredConstructors();
        due.is("one constructor", constructors.length, 1);
        due.is("it is public", Modifier.isPublic(constructors[0].getModifiers()) ? 1 : 0, 1);
        due.is("it takes nothing", constructors[0].getParameterCount(), 0);
        for (Class<?> inside : BoxProofs.class.getDeclaredClasses()) {
            int modifiers = inside.getModifiers();
            due.is(inside + " is static", Modifier.isStatic(modifiers) ? 1 : 0, 1);
            due.is(inside + " is not open", Modifier.isPublic(modifiers) || Modifier.isProtected(modifiers) ? 1 : 0, 0);
            for (Field f : inside.getDeclaredFields()) {
                due.is(f + " is final, if static", !Modifier.isStatic(f.getModifiers())
                    || Modifier.isFinal(f.getModifiers()) ? 1 : 0, 1);
            }
        }
        due.end();
    }

    private static void methods(Due due) {
        Set<String> open = new TreeSet<>();
        Set<String> openNames = new TreeSet<>();
        for (Method m : BoxProofs.class.getDeclaredMethods()) {
            if (!Modifier.isPrivate(m.getModifiers())) {
                String types = Arrays.toString(m.getParameterTypes()).replaceAll("[\\[\\] ]", "");
                open.add(m.getName() + "(" + types + ")");
                openNames.add(m.getName());
                due.is(m + " is public", Modifier.isPublic(m.getModifiers()) ? 1 : 0, 1);
                due.is(m + " answers an int", m.getReturnType() == int.class ? 1 : 0, 1);
            }
        }
        due.is("methods " + open, open.equals(new TreeSet<>(Arrays.asList(METHODS))) ? 1 : 0, 1);
        for (Method m : BoxProofs.class.getDeclaredMethods()) {
            if (Modifier.isPrivate(m.getModifiers())) {
                due.is(m + " has a name of its own", openNames.contains(m.getName()) ? 1 : 0, 0);
            }
        }
    }

    private static void fields(Due due) {
        Set<String> open = new TreeSet<>();
        for (Field f : BoxProofs.class.getDeclaredFields()) {
            if (!Modifier.isPrivate(f.getModifiers())) {
                open.add(f.getName());
            }
            if (Modifier.isStatic(f.getModifiers())) {
                due.is(f + " is final", Modifier.isFinal(f.getModifiers()) ? 1 : 0, 1);
            }
        }
        due.is("fields " + open, open.equals(Set.of("NONE", "UNKNOWN", "OUTSIDE", "FULL")) ? 1 : 0, 1);
        due.is("NONE", BoxProofs.NONE, -1);
        due.is("UNKNOWN", BoxProofs.UNKNOWN, -2);
        due.is("OUTSIDE", BoxProofs.OUTSIDE, -3);
        due.is("FULL", BoxProofs.FULL, -4);
    }
}
