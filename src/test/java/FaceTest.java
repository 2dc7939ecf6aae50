import java.lang.reflect.Field;
import java.lang.reflect.Method;
import java.lang.reflect.Modifier;
import java.util.Arrays;
import java.util.List;
import java.util.Set;
import java.util.TreeSet;

/** The class has the public face of the document, and no other. */
public final class FaceTest {
    private static final List<String> METHODS = List.of(
            "int type()",
            "int constructor(int, int, int)",
            "boolean begin(int, int)",
            "int put(int)",
            "int rule()",
            "int lead()",
            "int outcome(int, int)",
            "int size()",
            "int node(int, int)",
            "boolean covers()",
            "boolean clash(int, int)",
            "int count(int)");

    private static String told(Method m) {
        String taken = Arrays.toString(m.getParameterTypes());
        return m.getReturnType() + " " + m.getName() + "(" + taken.substring(1, taken.length() - 1) + ")";
    }

    public static void main(String[] args) throws Exception {
        Class<?> c = NeededTrees.class;
        Check.due("final", true, Modifier.isFinal(c.getModifiers()) && Modifier.isPublic(c.getModifiers()));
        Set<String> open = new TreeSet<>();
        for (Method m : c.getDeclaredMethods()) {
            if (!Modifier.isPrivate(m.getModifiers())) {
                open.add(told(m));
                Check.due(told(m) + " is public and no static one", Modifier.PUBLIC, m.getModifiers());
            }
        }
        System.out.println(open);
        Check.due("methods", true, open.equals(new TreeSet<>(METHODS)));
        for (Field f : c.getDeclaredFields()) {
            boolean isFace = f.getName().equals("NONE");
            Check.due(f.getName() + " is private", !isFace, Modifier.isPrivate(f.getModifiers()));
        }
        int face = Modifier.PUBLIC | Modifier.STATIC | Modifier.FINAL;
        Check.due("NONE", face, c.getDeclaredField("NONE").getModifiers());
        Check.due("constructors", 1, c.getDeclaredConstructors().length);
        Check.due("constructor", Modifier.PUBLIC, c.getDeclaredConstructor().getModifiers());
        Check.end();
    }
}
