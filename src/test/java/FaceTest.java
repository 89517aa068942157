import java.lang.reflect.Constructor;
import java.lang.reflect.Field;
import java.lang.reflect.Method;
import java.lang.reflect.Modifier;
import java.util.Arrays;
import java.util.Set;
import java.util.TreeSet;

/** The public face of the document, and rules 1 and 5 of the language, by reflection. */
public final class FaceTest {
    private static final Due DUE = new Due();
    private static final String[] FACE = {
        "int prepare(int, int, int, int)", "int deliver(int)", "int sweep(int)", "int drop(int)",
        "int duplicate(int)", "int crash(int)", "int restart(int)", "int tell(int, int)",
        "int learned(int, int)", "int acceptor(int, int, int)", "int proposer(int, int, int)",
        "int heard(int, int, int)", "int message(int, int)", "int chosen(int)", "int prefix(int)",
        "long applied(int)", "int count(int)",
    };

    public static void main(String[] args) {
        methods();
        fields();
        classes();
        DUE.end();
    }

    private static void yes(String what, boolean got) {
        DUE.is(what, got ? 1 : 0, 1);
    }

    private static String written(Method m) {
        String types = Arrays.toString(m.getParameterTypes());
        return m.getReturnType() + " " + m.getName() + "("
                + types.substring(1, types.length() - 1) + ")";
    }

    private static void methods() {
        Set<String> open = new TreeSet<>();
        Set<String> names = new TreeSet<>();
        Set<String> hidden = new TreeSet<>();
        for (Method m : DecreePool.class.getDeclaredMethods()) {
            if (Modifier.isPrivate(m.getModifiers())) {
                hidden.add(m.getName());
            } else {
                open.add(written(m));
                names.add(m.getName());
                DUE.is("modifiers of " + m.getName(), m.getModifiers(), Modifier.PUBLIC);
            }
        }
        yes("the methods are the document's: " + open,
                open.equals(new TreeSet<>(Arrays.asList(FACE))));
        hidden.retainAll(names);
        yes("no private method bears the name of a public one: " + hidden, hidden.isEmpty());
        Constructor<?>[] made = DecreePool.class.getDeclaredConstructors();
        DUE.is("constructors", made.length, 1);
        DUE.is("modifiers of the constructor", made[0].getModifiers(), Modifier.PUBLIC);
        yes("the constructor's parameters", Arrays.equals(made[0].getParameterTypes(),
                new Class<?>[] {int.class, int.class, int.class}));
    }

    private static void fields() {
        Set<String> open = new TreeSet<>();
        for (Field f : DecreePool.class.getDeclaredFields()) {
            if (!Modifier.isPrivate(f.getModifiers())) {
                open.add(f.getName());
                DUE.is("modifiers of " + f.getName(), f.getModifiers(),
                        Modifier.PUBLIC | Modifier.STATIC | Modifier.FINAL);
                yes("type of " + f.getName(), f.getType() == int.class);
            }
            if (Modifier.isStatic(f.getModifiers())) {
                yes(f.getName() + " is final", Modifier.isFinal(f.getModifiers()));
            }
        }
        yes("the constants are the document's: " + open,
                open.equals(new TreeSet<>(Arrays.asList("NONE", "DOWN", "OLD", "FULL"))));
    }

    private static void classes() {
        DUE.is("modifiers of DecreePool", DecreePool.class.getModifiers(),
                Modifier.PUBLIC | Modifier.FINAL);
        yes("no super class", DecreePool.class.getSuperclass() == Object.class);
        for (Class<?> c : DecreePool.class.getDeclaredClasses()) {
            yes(c.getName() + " is static", Modifier.isStatic(c.getModifiers()));
            yes(c.getName() + " is not public", !Modifier.isPublic(c.getModifiers()));
            for (Field f : c.getDeclaredFields()) {
                yes(c.getName() + "." + f.getName() + " is no static state",
                        !Modifier.isStatic(f.getModifiers())
                                || Modifier.isFinal(f.getModifiers()));
            }
        }
    }
}
