import java.lang.reflect.Constructor;
import java.lang.reflect.Field;
import java.lang.reflect.Method;
import java.lang.reflect.Modifier;
import java.util.Arrays;
import java.util.Set;
import java.util.TreeSet;

/** The face of the class is the document's and nothing more. */
public final class FaceTest {
    private static final String[] FACE = {
        "int feed(int, int, int, int, int)", "boolean end(int)", "int board()", "int fault()", "int why()",
        "int peg(int)", "int band(int, int)", "int corner(int, int)", "int side(int, int)", "int over(int, int)",
        "int cross(int, int, int)", "int in(int, int)", "int alike(int, int, int)", "int form(int, int)",
        "int formAt(int)", "int move(int, int, int)", "int slide(int, int, int)", "int snap(int)", "int undo()",
        "int free()", "int rim(int, int)", "int even(int, int)", "int wide(int)", "int calls()", "int closes()",
        "int mended(int)", "int lay()", "int write(int)", "int byteAt(int)", "int triangles(int, int, int)",
        "int smallest(int, int)", "int cuts(int, int)", "int moved(int, int)", "boolean line(int, int)",
        "int lines(int)", "int wins()", "int again()", "int sentence()", "int said(int)", "boolean image(int)",
        "boolean restore(int)", "int count(int)"
    };

    public static void main(String[] args) {
        Check.due("final and public", PegBands.class.getModifiers(), Modifier.PUBLIC | Modifier.FINAL);
        Check.due("NONE", PegBands.NONE, -1);
        Set<String> shown = new TreeSet<>();
        Set<String> names = new TreeSet<>();
        for (Method m : PegBands.class.getDeclaredMethods()) {
            if (Modifier.isPublic(m.getModifiers())) {
                shown.add(headOf(m));
                names.add(m.getName());
            }
        }
        Check.due("public methods", shown.toString(), new TreeSet<>(Arrays.asList(FACE)).toString());
        int constructors = 0;
        for (Constructor<?> c : PegBands.class.getDeclaredConstructors()) {
            Check.due("constructor is public", Modifier.isPublic(c.getModifiers()), true);
            constructors++;
        }
        Check.due("constructors", constructors, 1);
        checkHidden(PegBands.class, names);
        for (Class<?> inside : PegBands.class.getDeclaredClasses()) {
            Check.due(inside + " is static", Modifier.isStatic(inside.getModifiers()), true);
            checkHidden(inside, names);
        }
        Check.finish();
    }

    private static String headOf(Method m) {
        StringBuilder s = new StringBuilder(m.getReturnType() + " " + m.getName() + "(");
        for (Class<?> p : m.getParameterTypes()) {
            s.append(s.charAt(s.length() - 1) == '(' ? "" : ", ").append(p);
        }
        return s.append(")").toString();
    }

    private static void checkHidden(Class<?> c, Set<String> names) {
        for (Method m : c.getDeclaredMethods()) {
            boolean isFace = c == PegBands.class && Modifier.isPublic(m.getModifiers());
            if (!isFace && !m.isSynthetic()) {
                Check.due(c + "." + m.getName() + " bears a public name", names.contains(m.getName()), false);
            }
            if (!isFace && c == PegBands.class) {
                Check.due(m + " is private", Modifier.isPrivate(m.getModifiers()), true);
            }
            Check.due(m + " takes seven at most", m.getParameterCount() <= 7, true);
        }
        int fields = 0;
        for (Field f : c.getDeclaredFields()) {
            boolean isStatic = Modifier.isStatic(f.getModifiers());
            if (isStatic) {
                Check.due(f + " is final", Modifier.isFinal(f.getModifiers()), true);
            } else {
                fields++;
            }
            if (c == PegBands.class && !f.getName().equals("NONE")) {
                Check.due(f + " is private", Modifier.isPrivate(f.getModifiers()), true);
            }
        }
        Check.due(c + " has some twenty fields at most", fields <= 20, true);
    }
}
