import java.lang.reflect.Constructor;
import java.lang.reflect.Field;
import java.lang.reflect.Method;
import java.lang.reflect.Modifier;
import java.util.Arrays;
import java.util.TreeSet;

/** The public face: every constant, the constructor and every method of the document, and nothing else. */
public final class FaceTest {
    private static final String[] METHODS = {
        "int kind(int)", "int is(int,int)", "int property(int,int,int)", "int usual(int,int,long)",
        "int thing(int,int)", "int put(int,int)", "int bar(int,int)", "int give(int,int,long)",
        "long value(int,int)", "int given(int,int)", "long peek(int,int,int)", "int place(int,int)",
        "int says(int,int)", "int follow(int,int,int)", "int mark(int,int)", "int remark(int,int,int)",
        "int open(int,boolean)", "int among(int,long)", "int pair(int,int,boolean)", "int most(int,int)",
        "int settle()", "long set(int)", "int relation(int)", "int relate(int,int,int)",
        "int deny(int,int,int)", "int related(int,int,int)", "int along(int,int,int)", "int next(int,int,int)",
        "int exit(int,int,int)", "int door(int,int,int,int)", "int leads(int,int)", "int sort(int,int)",
        "int route(int,int,boolean)", "int first(int,int,boolean)", "int shelf(int,int)",
        "int stand(int,int,int)", "int stands(int,int)", "int haul(int,int,int,int,int)", "int came()",
        "int table(int,int,int)", "int fill(int,int,int,long)", "int blank(int,int,int)",
        "long read(int,int,int)", "int choose(int,int,long,int)", "int rank(int,int,boolean)",
        "long total(int,int)", "long mean(int,int)", "int make()", "int word(int)", "long digest()",
        "int sentence(int,int)", "int count(int)", "int fault()", "int clear()"};

    public static void main(String[] args) {
        Due due = new Due();
        due.is("final", Modifier.isFinal(WorldMake.class.getModifiers()) ? 1 : 0, 1);
        methods(due);
        fields(due);
        Constructor<?>[] made = WorldMake.class.getDeclaredConstructors();
        due.is("constructors", made.length, 1);
        due.is("constructor is public", Modifier.isPublic(made[0].getModifiers()) ? 1 : 0, 1);
        due.is("constructor has no numbers", made[0].getParameterCount(), 0);
        for (Class<?> inside : WorldMake.class.getDeclaredClasses()) {
            due.is(inside.getName() + " is static", Modifier.isStatic(inside.getModifiers()) ? 1 : 0, 1);
            due.is(inside.getName() + " is public", Modifier.isPublic(inside.getModifiers()) ? 1 : 0, 0);
        }
        due.end();
    }

    private static void methods(Due due) {
        TreeSet<String> open = new TreeSet<>();
        TreeSet<String> names = new TreeSet<>();
        for (Method m : WorldMake.class.getDeclaredMethods()) {
            if (!Modifier.isPrivate(m.getModifiers())) {
                open.add(text(m));
                names.add(m.getName());
            }
        }
        TreeSet<String> wanted = new TreeSet<>(Arrays.asList(METHODS));
        for (String m : wanted) {
            due.is("there is " + m, open.contains(m) ? 1 : 0, 1);
        }
        for (String m : open) {
            due.is("the document has " + m, wanted.contains(m) ? 1 : 0, 1);
        }
        for (Method m : WorldMake.class.getDeclaredMethods()) {
            if (Modifier.isPrivate(m.getModifiers())) {
                due.is("private " + m.getName() + " is a name of the face", names.contains(m.getName()) ? 1 : 0, 0);
            }
        }
    }

    private static String text(Method m) {
        StringBuilder out = new StringBuilder(m.getReturnType().getName() + " " + m.getName() + "(");
        for (int i = 0; i < m.getParameterCount(); i++) {
            out.append(i == 0 ? "" : ",").append(m.getParameterTypes()[i].getName());
        }
        return out.append(")").toString();
    }

    private static void fields(Due due) {
        TreeSet<String> open = new TreeSet<>();
        for (Field f : WorldMake.class.getDeclaredFields()) {
            if (!Modifier.isPrivate(f.getModifiers())) {
                open.add(f.getName());
            }
            if (Modifier.isStatic(f.getModifiers())) {
                due.is(f.getName() + " is final", Modifier.isFinal(f.getModifiers()) ? 1 : 0, 1);
            }
        }
        due.is("six constants", open.equals(new TreeSet<>(Arrays.asList(
                "UNKNOWN", "OUTSIDE", "STATE", "FULL", "NOWAY", "NONE"))) ? 1 : 0, 1);
        due.is("UNKNOWN", WorldMake.UNKNOWN, -1);
        due.is("OUTSIDE", WorldMake.OUTSIDE, -2);
        due.is("STATE", WorldMake.STATE, -3);
        due.is("FULL", WorldMake.FULL, -4);
        due.is("NOWAY", WorldMake.NOWAY, -5);
        due.is("NONE", WorldMake.NONE, -9);
    }
}
