import java.lang.reflect.Method;
import java.nio.file.Files;
import java.nio.file.Path;
import java.util.HashMap;
import java.util.Map;
import java.util.regex.Matcher;
import java.util.regex.Pattern;

/** README.md: every call in it answers what stands behind it, and every call of the face is in it. */
public final class ReadmeTest {
    private static final Pattern BLOCK = Pattern.compile("(?s)```java\n(.*?)```");
    private static final Pattern CALL =
            Pattern.compile("(?:int (\\w+) = )?world\\.(\\w+)\\(([^()]*)\\); +// (-?\\d+)(?::.*)?");
    private static final Due due = new Due();

    private static WorldMake world;
    private static final Map<String, Long> names = new HashMap<>();

    public static void main(String[] args) throws Exception {
        String text = Files.readString(Path.of("README.md"));
        Map<String, Integer> called = new HashMap<>();
        Matcher blocks = BLOCK.matcher(text);
        while (blocks.find()) {
            for (String line : blocks.group(1).split("\n")) {
                read(line, called);
            }
        }
        for (Method m : WorldMake.class.getDeclaredMethods()) {
            if (java.lang.reflect.Modifier.isPublic(m.getModifiers())) {
                due.is("README.md calls " + m.getName(), called.containsKey(m.getName()) ? 1 : 0, 1);
                due.is("README.md lists " + m.getName(), text.contains("`" + m.getName() + "`") ? 1 : 0, 1);
            }
        }
        due.end();
    }

    private static void read(String line, Map<String, Integer> called) throws Exception {
        if (line.equals("WorldMake world = new WorldMake();")) {
            world = new WorldMake();
            names.clear();
            return;
        }
        Matcher call = CALL.matcher(line);
        if (!call.matches()) {
            due.is("README.md has a line that is no call with its answer: " + line, 0, 1);
            return;
        }
        long got = answer(call.group(2), call.group(3));
        called.merge(call.group(2), 1, Integer::sum);
        if (call.group(1) != null) {
            names.put(call.group(1), got);
        }
        due.is("README.md: " + line, got, Long.parseLong(call.group(4)));
    }

    private static long answer(String name, String numbers) throws Exception {
        String[] told = numbers.isEmpty() ? new String[0] : numbers.split(", ");
        for (Method m : WorldMake.class.getDeclaredMethods()) {
            if (m.getName().equals(name) && m.getParameterCount() == told.length) {
                Object[] fit = new Object[told.length];
                for (int i = 0; i < told.length; i++) {
                    Class<?> type = m.getParameterTypes()[i];
                    fit[i] = type == boolean.class ? (Object) truth(told[i])
                            : type == long.class ? (Object) number(told[i]) : (Object) (int) number(told[i]);
                }
                return ((Number) m.invoke(world, fit)).longValue();
            }
        }
        throw new IllegalStateException("README.md calls " + name + "(" + numbers + ")");
    }

    private static boolean truth(String word) {
        if (!word.equals("true") && !word.equals("false")) {
            throw new IllegalStateException("README.md has the truth " + word);
        }
        return word.equals("true");
    }

    /** A number, a name, WorldMake.NONE, bits as in 1L << name, and several of these joined by |. */
    private static long number(String words) {
        long joined = 0;
        for (String word : words.split(" \\| ")) {
            String[] bits = word.split("1L << ");
            joined |= bits.length == 2 ? 1L << plain(bits[1]) : plain(word);
        }
        return joined;
    }

    private static long plain(String word) {
        if (word.equals("WorldMake.NONE")) {
            return WorldMake.NONE;
        }
        return names.containsKey(word) ? names.get(word) : Long.parseLong(word);
    }
}
