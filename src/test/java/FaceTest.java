import java.lang.reflect.Field;
import java.lang.reflect.Method;
import java.lang.reflect.Modifier;
import java.util.Arrays;
import java.util.Map;
import java.util.Set;
import java.util.TreeMap;
import java.util.TreeSet;

/** The public face: every constant, the constructor and every method of the document, and no other member. */
public final class FaceTest {
    private static final String METHODS = "feed 1 place 0 fault 0 told 1 person 2 remembers 2 year 1 meet 2 forget 2 "
        + "parade 3 mark 2 drift 1 undo 0 sure 3 bestRow 3 odds 4 ask 2 ring 1 rings 1 mask 4 spoil 4 impostor 5 lost 1 "
        + "alike 1 see 4 honest 0 nods 1 showNext 2 write 2 tear 0 judge 0 seed 1 keep 1 goBack 1";

    private FaceTest() {
    }

    public static void main(String[] args) {
        Due.is("NONE", ParadeRow.NONE, -1);
        Due.is("UNKNOWN", ParadeRow.UNKNOWN, -1000000001);
        Due.is("OUTSIDE", ParadeRow.OUTSIDE, -1000000002);
        Due.is("NOT", ParadeRow.NOT, -1000000003);
        Due.is("FULL", ParadeRow.FULL, -1000000004);
        Due.same("the class", Modifier.toString(ParadeRow.class.getModifiers()), "public final");
        Due.is("constructors", ParadeRow.class.getDeclaredConstructors().length, 1);
        Due.is("public constructors without parameters",
            Arrays.stream(ParadeRow.class.getConstructors()).filter(c -> c.getParameterCount() == 0).count(), 1);
        methods();
        fields();
        for (Class<?> inside : ParadeRow.class.getDeclaredClasses()) {
            inside(inside);
        }
        Due.end("FaceTest");
    }

    private static Map<String, Integer> dueMethods() {
        Map<String, Integer> due = new TreeMap<>();
        String[] words = METHODS.split(" ");
        for (int i = 0; i + 1 < words.length; i += 2) {
            due.put(words[i], Integer.parseInt(words[i + 1]));
        }
        return due;
    }

    private static void methods() {
        Map<String, Integer> found = new TreeMap<>();
        for (Method method : ParadeRow.class.getDeclaredMethods()) {
            boolean open = Modifier.isPublic(method.getModifiers());
            if (open) {
                found.put(method.getName(), method.getParameterCount());
                boolean ints = method.getReturnType() == int.class
                    && Arrays.stream(method.getParameterTypes()).allMatch(type -> type == int.class);
                Due.is("ints alone in " + method, ints ? 1 : 0, 1);
                Due.same("modifiers of " + method, Modifier.toString(method.getModifiers()), "public");
            } else {
                privateMethod(method);
            }
        }
        Due.same("public methods", found, dueMethods());
    }

    private static void privateMethod(Method method) {
        Due.is("private is " + method, Modifier.isPrivate(method.getModifiers()) ? 1 : 0, 1);
        Due.is("a name of the face has " + method, dueMethods().containsKey(method.getName()) ? 1 : 0, 0);
    }

    private static void fields() {
        Set<String> open = new TreeSet<>();
        for (Field field : ParadeRow.class.getDeclaredFields()) {
            if (!Modifier.isPrivate(field.getModifiers())) {
                open.add(Modifier.toString(field.getModifiers()) + " " + field.getType() + " " + field.getName());
            }
            if (Modifier.isStatic(field.getModifiers())) {
                Due.is("final is " + field, Modifier.isFinal(field.getModifiers()) ? 1 : 0, 1);
            }
        }
        Set<String> due = new TreeSet<>();
        for (String name : new String[] {"NONE", "UNKNOWN", "OUTSIDE", "NOT", "FULL"}) {
            due.add("public static final int " + name);
        }
        Due.same("open fields", open, due);
    }

    private static void inside(Class<?> inside) {
        Due.is("static is " + inside, Modifier.isStatic(inside.getModifiers()) ? 1 : 0, 1);
        Due.is("public is " + inside, Modifier.isPublic(inside.getModifiers()) ? 1 : 0, 0);
        for (Method method : inside.getDeclaredMethods()) {
            Due.is("a name of the face has " + method, dueMethods().containsKey(method.getName()) ? 1 : 0, 0);
        }
    }
}
