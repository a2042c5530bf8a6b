import java.lang.reflect.Field;
import java.lang.reflect.Method;
import java.lang.reflect.Modifier;
import java.util.Arrays;
import java.util.Set;
import java.util.TreeSet;

/** The public face: what the document names is there, and nothing else is to be seen from outside. */
public final class FaceTest {
    private static final String[] METHODS = {
        "make(int, int)", "put(int, int, int)", "get(int, int)", "lay(int, int, int)", "at(int, int)", "is(int, int)",
        "stamps(int)", "desk(int, int, int, boolean)", "change(int, int, int, int, boolean)", "hand(int, int)",
        "out()", "told(int, int, int)", "count(int)", "refused()",
    };
    private static final String[] CONSTANTS = {"NONE", "BAD", "FULL", "CAST", "INDEX", "STORE"};

    public static void main(String[] args) {
        Checks c = new Checks();
        Class<?> face = MailRooms.class;
        c.holds("the class is public and final",
            Modifier.isPublic(face.getModifiers()) && Modifier.isFinal(face.getModifiers()));
        c.holds("one public constructor without parameters", face.getDeclaredConstructors().length == 1
            && face.getConstructors().length == 1 && face.getConstructors()[0].getParameterCount() == 0);
        methods(c, face);
        fields(c, face);
        for (Class<?> inside : face.getDeclaredClasses()) {
            c.holds(inside + " is static", Modifier.isStatic(inside.getModifiers()));
            c.holds(inside + " is not public", !Modifier.isPublic(inside.getModifiers()));
        }
        c.end();
    }

    private static void methods(Checks c, Class<?> face) {
        Set<String> seen = new TreeSet<>();
        for (Method method : face.getDeclaredMethods()) {
            String parameters = Arrays.toString(method.getParameterTypes());
            String call = method.getName() + "(" + parameters.substring(1, parameters.length() - 1) + ")";
            if (!Modifier.isPrivate(method.getModifiers())) {
                seen.add(call);
                c.holds(call + " is public and answers an int, on an object",
                    Modifier.isPublic(method.getModifiers()) && method.getReturnType() == int.class
                    && !Modifier.isStatic(method.getModifiers()));
            }
        }
        c.holds("the fourteen methods: " + seen, seen.equals(new TreeSet<>(Arrays.asList(METHODS))));
    }

    private static void fields(Checks c, Class<?> face) {
        Set<String> seen = new TreeSet<>();
        for (Field field : face.getDeclaredFields()) {
            int how = field.getModifiers();
            if (!Modifier.isPrivate(how)) {
                seen.add(field.getName());
                c.holds(field + " is a public constant",
                    Modifier.isPublic(how) && Modifier.isStatic(how) && Modifier.isFinal(how)
                    && field.getType() == int.class);
            } else if (Modifier.isStatic(how)) {
                c.holds(field + " is final", Modifier.isFinal(how));
            }
        }
        c.holds("the constants: " + seen, seen.equals(new TreeSet<>(Arrays.asList(CONSTANTS))));
    }
}
