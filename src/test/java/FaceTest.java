import java.lang.reflect.Constructor;
import java.lang.reflect.Field;
import java.lang.reflect.Method;
import java.lang.reflect.Modifier;
import java.util.Arrays;
import java.util.TreeSet;

/** The public face: all of the document's members, and nothing else that can be seen. */
public final class FaceTest {
    private static final String[] METHODS = {
        "int set(int,int)", "int strong(int,int)", "int say(int)", "int wipe()", "int fault(int)", "int plan()",
        "int after(int,int)", "int flakes(int,int)", "int tired(int,int)", "int held(int)", "int order(int)",
        "int bestSalt(int)", "int bestPace(int)", "int leaveOff(int)", "int box()", "int stored(int)",
        "int grown(int,int)", "int sand()", "long iceAt(int,int)", "int soft()", "int sugarFor(int)",
        "int image(int)", "int restore(int)", "int told(int)"};

    private static final String[] CONSTANTS = {
        "int NONE", "int UNKNOWN", "int OUTSIDE", "int STATE", "int FULL", "int NO", "long LOST"};

    private static String told(Method m) {
        StringBuilder text = new StringBuilder(m.getReturnType() + " " + m.getName() + "(");
        for (int i = 0; i < m.getParameterCount(); i++) {
            text.append(i == 0 ? "" : ",").append(m.getParameterTypes()[i]);
        }
        return text.append(")").toString();
    }

    private static void sameNames(Check check, String what, TreeSet<String> got, String[] want) {
        TreeSet<String> due = new TreeSet<>(Arrays.asList(want));
        check.holds(what + " are " + got + ", due are " + due, got.equals(due));
    }

    public static void main(String[] args) {
        Check check = new Check("FaceTest");
        Class<?> face = SaltIceCream.class;
        check.holds("public and final", Modifier.isPublic(face.getModifiers()) && Modifier.isFinal(face.getModifiers()));

        TreeSet<String> methods = new TreeSet<>();
        TreeSet<String> publicNames = new TreeSet<>();
        TreeSet<String> hiddenNames = new TreeSet<>();
        for (Method m : face.getDeclaredMethods()) {
            if (Modifier.isPrivate(m.getModifiers())) {
                hiddenNames.add(m.getName());
            } else {
                methods.add(told(m));
                publicNames.add(m.getName());
                check.holds(m + " is public, of the object", Modifier.isPublic(m.getModifiers())
                    && !Modifier.isStatic(m.getModifiers()));
            }
        }
        sameNames(check, "methods", methods, METHODS);

        TreeSet<String> constants = new TreeSet<>();
        for (Field f : face.getDeclaredFields()) {
            if (!Modifier.isPrivate(f.getModifiers())) {
                constants.add(f.getType() + " " + f.getName());
            }
            check.holds(f + " is final, if static", !Modifier.isStatic(f.getModifiers())
                || Modifier.isFinal(f.getModifiers()));
        }
        sameNames(check, "constants", constants, CONSTANTS);

        for (Constructor<?> c : face.getDeclaredConstructors()) {
            check.holds(c + " is public and takes nothing", Modifier.isPublic(c.getModifiers()) && c.getParameterCount() == 0);
        }
        for (Class<?> inside : face.getDeclaredClasses()) {
            check.holds(inside + " is static, not public", Modifier.isStatic(inside.getModifiers())
                && !Modifier.isPublic(inside.getModifiers()) && !Modifier.isProtected(inside.getModifiers()));
            for (Method m : inside.getDeclaredMethods()) {
                hiddenNames.add(m.getName());
            }
        }
        hiddenNames.retainAll(publicNames);
        check.holds("no hidden method has a public one's name, but " + hiddenNames, hiddenNames.isEmpty());

        check.due("NONE", SaltIceCream.NONE, -6);
        check.due("UNKNOWN", SaltIceCream.UNKNOWN, -1);
        check.due("OUTSIDE", SaltIceCream.OUTSIDE, -2);
        check.due("STATE", SaltIceCream.STATE, -3);
        check.due("FULL", SaltIceCream.FULL, -4);
        check.due("NO", SaltIceCream.NO, -5);
        check.due("LOST", SaltIceCream.LOST, -1000000000000000000L);
        check.end();
    }
}
