import java.io.IOException;
import java.lang.reflect.Array;
import java.lang.reflect.Field;
import java.lang.reflect.Method;
import java.lang.reflect.Modifier;
import java.nio.file.Files;
import java.nio.file.Path;
import java.util.ArrayList;
import java.util.HashSet;
import java.util.IdentityHashMap;
import java.util.List;
import java.util.Map;
import java.util.Set;
import java.util.regex.Matcher;
import java.util.regex.Pattern;

/** What of ../shared/LANGUAGE.md can be seen in the class and in its text, and what room an object takes. */
public final class LanguageTest {
    private static final Path SOURCE = Path.of("src/main/java/NeededTrees.java");
    private static final int MOST_CLASSES = 12;
    private static final int MOST_FIELDS = 20;
    private static final int MOST_PARAMETERS = 7;
    private static final int MOST_LINES = 60;

    private LanguageTest() {
    }

    private static List<Class<?>> classes() {
        List<Class<?>> all = new ArrayList<>(List.of(NeededTrees.class));
        all.addAll(List.of(NeededTrees.class.getDeclaredClasses()));
        return all;
    }

    private static void dueInsideClasses() {
        Check.due("classes, at most " + MOST_CLASSES, true, classes().size() <= MOST_CLASSES);
        Set<String> face = new HashSet<>();
        for (Method m : NeededTrees.class.getDeclaredMethods()) {
            if (Modifier.isPublic(m.getModifiers())) {
                face.add(m.getName());
            }
        }
        for (Class<?> c : classes()) {
            if (c != NeededTrees.class) {
                Check.due(c + " is private and static", Modifier.PRIVATE | Modifier.STATIC | Modifier.FINAL, c.getModifiers());
            }
            for (Method m : c.getDeclaredMethods()) {
                boolean isPrivate = Modifier.isPrivate(m.getModifiers());
                Check.due(m + " is not named like one of the face", false, isPrivate && face.contains(m.getName()));
                Check.due(m + " parameters", true, m.getParameterCount() <= MOST_PARAMETERS);
            }
        }
    }

    private static void dueFields() {
        Set<Class<?>> kinds = new HashSet<>(Set.of(int.class, boolean.class, int[].class));
        kinds.addAll(classes());
        for (Class<?> c : classes()) {
            int own = 0;
            for (Field f : c.getDeclaredFields()) {
                boolean isStatic = Modifier.isStatic(f.getModifiers());
                own += isStatic ? 0 : 1;
                Check.due(f + " is of such a type", true, kinds.contains(f.getType()));
                Check.due(f + " is no static state", false, isStatic && !(Modifier.isFinal(f.getModifiers()) && f.getType() == int.class));
            }
            Check.due(c + " fields", true, own <= MOST_FIELDS);
        }
    }

    /** The text without comments, each of its lines still being one. */
    private static String code() throws IOException {
        String text = Files.readString(SOURCE);
        Matcher block = Pattern.compile("/\\*.*?\\*/", Pattern.DOTALL).matcher(text);
        String lines = block.replaceAll(m -> m.group().replaceAll("[^\n]", ""));
        return lines.replaceAll("//[^\n]*", "");
    }

    private static int times(String code, String pattern) {
        return (int) Pattern.compile(pattern).matcher(code).results().count();
    }

    private static void dueText(String code) {
        Check.due("package", 0, times(code, "(?m)^package\\b"));
        Check.due("imports", 1, times(code, "(?m)^import\\b"));
        Check.due("import of Arrays", 1, times(code, "(?m)^import java\\.util\\.Arrays;$"));
        Check.due("other ways out of a method", 0, times(code, "\\b(try|catch|throw|throws|finally|assert|synchronized)\\b"));
        Check.due("lambdas and method references", 0, times(code, "->|::"));
        Check.due("static blocks", 0, times(code, "\\bstatic\\s*\\{"));
        Check.due("divisions", 0, times(code, "[/%]"));
        Check.due("casts", 0, times(code, "\\(\\s*(int|long|short|byte|char|[A-Z]\\w*)\\s*\\)\\s*[\\w(]"));
        Check.due("loops without a counter", 0, times(code, "\\b(while|do)\\b"));
        Check.due("null", 0, times(code, "\\bnull\\b"));
    }

    /** All that is indexed, is so in get() and set(), behind a look at the index. */
    private static void dueIndexes(String code) {
        Matcher index = Pattern.compile("(\\w+)\\[([^\\]]+)\\]").matcher(code);
        List<String> found = new ArrayList<>();
        while (index.find()) {
            if (!index.group(1).equals("int")) {
                found.add(index.group());
            }
        }
        Check.due("indexed " + found, true, found.equals(List.of("from[i]", "into[i]")));
        Check.due("get() looks first", 1, times(code, "i >= 0 && i < from\\.length \\? from\\[i\\] : NONE;"));
        Check.due("set() looks first", 1, times(code, "if \\(i >= 0 && i < into\\.length\\) \\{\\s*into\\[i\\] = v;"));
        Check.due("rows of a written length alone", 0, times(code, "new int\\[[^\\]]*[a-z(][^\\]]*\\]"));
        Check.due("objects made in a method", 1, times(code, "(?m)^ {12,}.*\\bnew\\b"));
    }

    private static void dueShortMethods(String code) {
        String[] lines = code.split("\n");
        int from = 0;
        for (int i = 0; i < lines.length; i++) {
            if (lines[i].matches(" {4}( {4})?(public|private)[^=;]*\\) \\{")) {
                from = i;
            } else if (lines[i].matches(" {4}( {4})?\\}")) {
                boolean ofMethod = lines[from].indexOf('p') == lines[i].indexOf('}');
                Check.due(lines[from].strip() + " lines", true, !ofMethod || i - from < MOST_LINES);
            }
        }
    }

    /** How many objects and arrays can be come to from here, and how many fields and elements they have. */
    private static int[] room(Object from) throws IllegalAccessException {
        Map<Object, Boolean> seen = new IdentityHashMap<>();
        List<Object> left = new ArrayList<>(List.of(from));
        int fields = 0;
        while (!left.isEmpty()) {
            Object one = left.remove(left.size() - 1);
            if (seen.put(one, true) != null) {
                continue;
            }
            if (one.getClass().isArray()) {
                fields += Array.getLength(one);
                continue;
            }
            for (Field f : one.getClass().getDeclaredFields()) {
                if (Modifier.isStatic(f.getModifiers())) {
                    continue;
                }
                fields++;
                if (!f.getType().isPrimitive()) {
                    f.setAccessible(true);
                    left.add(f.get(one));
                }
            }
        }
        return new int[] {seen.size(), fields};
    }

    private static void dueRoom() throws IllegalAccessException {
        NeededTrees x = new NeededTrees();
        int[] anew = room(x);
        x.type();
        x.constructor(0, 0, 0);
        x.begin(1, 0);
        for (int r = 0; r < 24; r++) {
            x.put(0);
            x.rule();
        }
        for (int i = 0; i < 200; i++) {
            x.put(-1);
            x.lead();
        }
        int[] used = room(x);
        System.out.println(used[0] + " objects and arrays, " + used[1] + " fields and elements");
        Check.due("objects made by calls", anew[0], used[0]);
        Check.due("elements made by calls", anew[1] + 24 * 400, used[1]);
        Check.due("a hundredth of the room", true, used[0] < 6_000 && used[1] < 73_000);
    }

    public static void main(String[] args) throws IOException, IllegalAccessException {
        dueInsideClasses();
        dueFields();
        String code = code();
        dueText(code);
        dueIndexes(code);
        dueShortMethods(code);
        dueRoom();
        Check.end();
    }
}
