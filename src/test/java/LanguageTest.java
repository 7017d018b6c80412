import java.lang.reflect.Array;
import java.lang.reflect.Field;
import java.lang.reflect.Method;
import java.lang.reflect.Modifier;
import java.nio.file.Files;
import java.nio.file.Path;
import java.util.ArrayDeque;
import java.util.IdentityHashMap;
import java.util.Map;
import java.util.TreeSet;
import java.util.regex.Pattern;

/** What of LANGUAGE.md can be seen from the file's text and from the classes; and the room that an object takes. */
public final class LanguageTest {
    private static final String[] RULED_OUT = {
        "->", "::", "\\bimport\\b", "\\bpackage\\b", "\\btry\\b", "\\bcatch\\b", "\\bfinally\\b", "\\bthrow",
        "\\bsynchronized\\b", "\\bassert\\b", "\\bvar\\b", "\\bSystem\\b", "\\bThread\\b", "Exact\\b", "\\bNaN\\b",
        "\\bstatic \\{", "\\bprotected\\b", "\\bObject\\b", "\\bhashCode\\b", "\\btoString\\b", "\\bequals\\b",
        "\\bwhile \\(true\\)", "for \\(;;"};

    private static final Due due = new Due();

    public static void main(String[] args) throws Exception {
        String text = Files.readString(Path.of("src/main/java/WorldMake.java"));
        String bare = text.replaceAll("(?s)/\\*.*?\\*/", "").replaceAll("//[^\n]*", "");
        for (String ruledOut : RULED_OUT) {
            due.is("there is " + ruledOut, Pattern.compile(ruledOut).matcher(bare).find() ? 1 : 0, 0);
        }
        due.is("all signs are plain", text.chars().allMatch(c -> c == '\n' || c >= 32 && c < 127) ? 1 : 0, 1);
        classes();
        room();
        due.end();
    }

    private static void classes() {
        TreeSet<String> face = new TreeSet<>();
        for (Method m : WorldMake.class.getDeclaredMethods()) {
            if (Modifier.isPublic(m.getModifiers())) {
                face.add(m.getName());
            }
        }
        Class<?>[] inside = WorldMake.class.getDeclaredClasses();
        due.is("twelve classes at most", inside.length < 12 ? 1 : 0, 1);
        for (Class<?> c : inside) {
            int fields = 0;
            for (Field f : c.getDeclaredFields()) {
                fields += Modifier.isStatic(f.getModifiers()) ? 0 : 1;
            }
            due.is(c.getName() + " has twenty fields at most", fields <= 20 ? 1 : 0, 1);
            for (Method m : c.getDeclaredMethods()) {
                due.is(c.getName() + "." + m.getName() + " is a name of the face", face.contains(m.getName()) ? 1 : 0, 0);
                due.is(m.getName() + " has seven numbers at most", m.getParameterCount() <= 7 ? 1 : 0, 1);
            }
        }
    }

    /** All rows are made in the constructor: no call may make more, so that any number of calls fits the room. */
    private static void room() throws Exception {
        WorldMake x = new WorldMake();
        int[] ahead = taken(x);
        due.is("some hundred objects", ahead[0] < 150 ? 1 : 0, 1);
        due.is("some ten thousand elements", ahead[1] < 12000 ? 1 : 0, 1);
        for (int i = 0; i < 64; i++) {
            x.thing(i % 6, i);
            x.put(i, (i * 7) % 64);
            x.among(i, 2);
            x.table(16, 5, 77777);
            x.shelf(0, 16);
            x.relation(5);
        }
        x.settle();
        x.make();
        x.clear();
        int[] behind = taken(x);
        due.is("no object more", behind[0], ahead[0]);
        due.is("no element more", behind[1], ahead[1]);
    }

    private static int[] taken(Object root) throws Exception {
        Map<Object, Boolean> seen = new IdentityHashMap<>();
        ArrayDeque<Object> open = new ArrayDeque<>();
        open.add(root);
        int elements = 0;
        while (!open.isEmpty()) {
            Object o = open.poll();
            if (seen.put(o, true) != null) {
                continue;
            }
            if (o.getClass().isArray()) {
                elements += Array.getLength(o);
                for (int i = 0; i < Array.getLength(o) && !o.getClass().getComponentType().isPrimitive(); i++) {
                    open.add(Array.get(o, i));
                }
                continue;
            }
            for (Field f : o.getClass().getDeclaredFields()) {
                if (!Modifier.isStatic(f.getModifiers())) {
                    elements++;
                    f.setAccessible(true);
                    if (!f.getType().isPrimitive()) {
                        open.add(f.get(o));
                    }
                }
            }
        }
        return new int[] {seen.size(), elements};
    }
}
