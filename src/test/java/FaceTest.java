import java.lang.reflect.Constructor;
import java.lang.reflect.Field;
import java.lang.reflect.Member;
import java.lang.reflect.Method;
import java.lang.reflect.Modifier;
import java.util.Arrays;
import java.util.Set;
import java.util.TreeSet;

/** The class has the document's face and no other member that is not private. */
public final class FaceTest {
    private static final Set<String> FACE = new TreeSet<>(Set.of(
        "NONE int -1", "NEW int 0", "WORKING int 1", "PAUSED int 2", "LEAVING int 3", "GONE int 4", "REFUSED int 5",
        "POWER int 1", "NEIGHBOUR int 2", "ROOM int 3", "PENDING long 1099511627776", "LOST long 2199023255552",
        "PlugTree()",
        "int bridge(int, int, int) A S", "int type(int, int, int, int, boolean) A S", "int plug(int, int, int) A S",
        "boolean step()", "int settle()", "int pull(int) A S", "int leave(int) A S", "int request(int, int, int) A S",
        "boolean work(int) A", "long result(int) A", "int card(int, int) A", "int range(int, int) A",
        "int opening(int, boolean) A", "int decode(int)", "int power(int) A", "int slot(int, int) A", "int moved()"));

    private FaceTest() {
    }

    public static void main(String[] args) throws IllegalAccessException {
        Set<String> found = new TreeSet<>();
        Set<String> open = new TreeSet<>();
        for (Field f : PlugTree.class.getDeclaredFields()) {
            if (isOpen(f)) {
                boolean constant = Modifier.isStatic(f.getModifiers()) && Modifier.isFinal(f.getModifiers());
                found.add(f.getName() + " " + f.getType() + " " + (constant ? f.get(null) : "is no constant"));
            }
        }
        for (Constructor<?> c : PlugTree.class.getDeclaredConstructors()) {
            if (isOpen(c)) {
                found.add(c.getName() + types(c.getParameterTypes()));
            }
        }
        for (Method m : PlugTree.class.getDeclaredMethods()) {
            if (isOpen(m)) {
                open.add(m.getName());
                found.add(m.getReturnType() + " " + m.getName() + types(m.getParameterTypes())
                    + exceptions(m.getExceptionTypes()));
            }
        }
        Check.promise(1);
        if (!found.equals(FACE)) {
            Check.say("the face is " + found + ", due is " + FACE);
        }
        Check.due("the class is public and final", Modifier.PUBLIC | Modifier.FINAL, PlugTree.class.getModifiers());
        for (Method m : PlugTree.class.getDeclaredMethods()) {
            if (!isOpen(m) && open.contains(m.getName())) {
                Check.say("private method with a public name: " + m);
            }
        }
        for (Class<?> c : PlugTree.class.getDeclaredClasses()) {
            Check.due("static and neither public nor protected: " + c, true, Modifier.isStatic(c.getModifiers())
                && !Modifier.isPublic(c.getModifiers()) && !Modifier.isProtected(c.getModifiers()));
        }
        Check.end();
    }

    private static boolean isOpen(Member m) {
        return !Modifier.isPrivate(m.getModifiers()) && !m.isSynthetic();
    }

    private static String types(Class<?>[] types) {
        return "(" + String.join(", ", Arrays.stream(types).map(Class::getSimpleName).toList()) + ")";
    }

    private static String exceptions(Class<?>[] types) {
        StringBuilder text = new StringBuilder();
        for (Class<?> t : types) {
            text.append(t == IllegalArgumentException.class ? " A" : t == IllegalStateException.class ? " S" : " ?");
        }
        return text.toString();
    }
}
