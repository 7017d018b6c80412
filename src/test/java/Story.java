import java.lang.reflect.Method;
import java.util.ArrayList;
import java.util.HashMap;
import java.util.List;
import java.util.Map;

/**
 * A run of calls on one object that is remembered, so that it can be told again to other objects. A call that
 * is refused is told to one of two that are alike, and then both are asked all there is to ask, and told
 * more: whatever the refused call changed would set them apart.
 */
final class Story {
    private static final int CALLS = 512, SENTENCES = 300, NEAR = 7;
    private static final Map<String, Method> METHODS = new HashMap<>();

    static {
        for (Method m : WorldMake.class.getMethods()) {
            if (m.getDeclaringClass() == WorldMake.class) {
                METHODS.put(m.getName(), m);
            }
        }
    }

    private record Call(String name, Object... numbers) {
        long on(WorldMake world) {
            try {
                return ((Number) METHODS.get(name).invoke(world, numbers)).longValue();
            } catch (ReflectiveOperationException e) {
                throw new IllegalStateException(this + " ended with " + e.getCause(), e);
            }
        }

        @Override
        public String toString() {
            StringBuilder out = new StringBuilder(name + "(");
            for (int i = 0; i < numbers.length; i++) {
                out.append(i == 0 ? "" : ", ").append(numbers[i]);
            }
            return out.append(")").toString();
        }
    }

    private final Due due;
    private final WorldMake world = new WorldMake();
    private final List<Call> told = new ArrayList<>();
    private final int[] counts = new int[10];
    private int calls;

    Story(Due due) {
        this.due = due;
    }

    /** Behind the 512th call an object may answer what it likes; some calls are left for the comparisons. */
    private long answer(Call c) {
        calls++;
        if (calls > CALLS - counts.length - 2) {
            throw new IllegalStateException("this story is too long");
        }
        return c.on(world);
    }

    private static Call call(String name, Object... numbers) {
        Class<?>[] types = METHODS.get(name).getParameterTypes();
        Object[] fit = new Object[numbers.length];
        for (int i = 0; i < numbers.length; i++) {
            fit[i] = types[i] == long.class ? (Object) ((Number) numbers[i]).longValue() : numbers[i];
        }
        return new Call(name, fit);
    }

    /** A call that must not be refused: what it answers. */
    int does(String name, Object... numbers) {
        Call c = call(name, numbers);
        told.add(c);
        long got = answer(c);
        due.is(c + " of the setting was refused", got < 0 ? got : 0, 0);
        return (int) got;
    }

    /** A call that answers what is due. */
    void due(String why, long want, String name, Object... numbers) {
        Call c = call(name, numbers);
        told.add(c);
        due.is(why + ": " + c, answer(c), want);
    }

    /** A call that is refused, comes to a fault or goes against a sentence, and changes nothing else. */
    void refused(String why, long want, String name, Object... numbers) {
        Call c = call(name, numbers);
        due.is(why + ": " + c, answer(c), want);
        WorldMake counted = again();
        for (int what = 0; what < counts.length; what++) {
            counts[what] = counted.count(what);
        }
        int room = CALLS - 2 - told.size();
        List<Call> questions = questions();
        for (int from = 0; from < questions.size(); from += room) {
            compare(why + ": " + c, c, want, questions.subList(from, Math.min(questions.size(), from + room)));
        }
        for (List<Call> chapter : chapters()) {
            compare(why + ": " + c, c, want, chapter.subList(0, Math.min(chapter.size(), room)));
        }
    }

    private void compare(String why, Call refused, long want, List<Call> chapter) {
        WorldMake touched = again();
        WorldMake untouched = again();
        refused.on(touched);
        boolean isFault = want <= -11 && want >= -16;
        due.is(why + " and then fault()", touched.fault(), isFault ? -10 - want : untouched.fault());
        for (Call c : chapter) {
            long was = c.on(untouched);
            long is = c.on(touched);
            if (is != was) {
                due.is(why + " and then " + c, is, was);
                return;
            }
        }
        due.is(why + " changes nothing", 0, 0);
    }

    private WorldMake again() {
        WorldMake other = new WorldMake();
        for (Call c : told) {
            c.on(other);
        }
        return other;
    }

    /** Tells sentences that say nothing new until there are n of them. */
    void sentences(int n) {
        int thing = does("count", 2) - 1;
        int property = does("property", 0, 0, 0);
        for (int s = does("count", 3); s < n; s++) {
            due("a sentence more", s, "give", thing, property, 1);
        }
    }

    /** All 300 sentences are told. */
    void fullOfSentences() {
        sentences(SENTENCES);
    }

    private List<List<Call>> chapters() {
        List<List<Call>> all = new ArrayList<>();
        all.add(putting("put"));
        all.add(putting("bar"));
        all.add(amongs());
        all.add(pairsAndMosts());
        all.add(relating("relate"));
        all.add(relating("deny"));
        all.add(map());
        all.add(values());
        all.add(rows());
        all.add(more());
        return all;
    }

    private int counts(int what) {
        return counts[what];
    }

    private int things() {
        return Math.min(NEAR + 1, counts(2));
    }

    private List<Call> questions() {
        List<Call> out = new ArrayList<>(List.of(call("came"), call("digest")));
        for (int what = 0; what < 10; what++) {
            out.add(call("count", what));
        }
        for (int kind = 0; kind < counts(0); kind++) {
            for (int other = 0; other <= kind; other++) {
                out.add(call("is", kind, other));
            }
        }
        askSentences(out);
        askThings(out);
        askRelations(out);
        for (int room = 0; room < things(); room++) {
            for (int d = 0; d < 8; d++) {
                out.add(call("leads", room, d));
                out.add(call("sort", room, d));
            }
            for (int other = 0; other < things(); other++) {
                out.add(call("route", room, other, false));
                out.add(call("first", room, other, true));
            }
        }
        askRows(out);
        return out;
    }

    private void askSentences(List<Call> out) {
        int n = counts(3);
        for (int s = 0; s < n; s++) {
            for (int what = 0; what < 3 && (s < 20 || s > n - 5); what++) {
                out.add(call("sentence", s, what));
            }
        }
        out.add(call("sentence", n, 0));
    }

    private void askThings(List<Call> out) {
        for (int thing = 0; thing < things(); thing++) {
            out.add(call("set", thing));
            for (int k = 0; k < 7; k++) {
                out.add(call("place", thing, k));
            }
            for (int what = 0; what < 5; what++) {
                out.add(call("says", thing, what));
            }
            out.add(call("mark", thing, 0));
            out.add(call("mark", thing, 1));
            for (int property = 0; property < counts(1); property++) {
                out.add(call("value", thing, property));
                out.add(call("given", thing, property));
            }
        }
        for (int property = 0; property < counts(1); property++) {
            for (int lane = 0; lane < 9; lane++) {
                out.add(call("peek", property, lane, 0));
                out.add(call("peek", property, lane, 63));
            }
        }
    }

    private void askRelations(List<Call> out) {
        for (int r = 0; r < counts(4); r++) {
            for (int a = 0; a < things(); a++) {
                for (int b = 0; b < things(); b++) {
                    out.add(call("related", r, a, b));
                    out.add(call("along", r, a, b));
                }
            }
        }
    }

    private void askRows(List<Call> out) {
        for (int shelf = 0; shelf < counts(5); shelf++) {
            for (int i = 0; i < 16; i++) {
                out.add(call("stands", shelf, i));
            }
        }
        for (int table = 0; table < counts(6); table++) {
            for (int row = 0; row < 16; row++) {
                for (int column = 0; column < 5; column++) {
                    out.add(call("read", table, row, column));
                }
            }
        }
        for (int i = 0; i < counts(8); i++) {
            out.add(call("word", i));
        }
    }

    private List<Call> putting(String name) {
        List<Call> out = new ArrayList<>();
        for (int thing = 0; thing < things(); thing++) {
            for (int where = 0; where < things(); where++) {
                out.add(call(name, thing, where));
            }
        }
        out.add(call("settle"));
        return out;
    }

    private List<Call> amongs() {
        List<Call> out = new ArrayList<>(List.of(call("settle")));
        for (int thing = 0; thing < things(); thing++) {
            for (int where = 0; where < things(); where++) {
                out.add(call("among", thing, 1L << where));
            }
            out.add(call("set", thing));
        }
        out.add(call("settle"));
        for (int thing = 0; thing < things(); thing++) {
            out.add(call("place", thing, 0));
        }
        return out;
    }

    private List<Call> pairsAndMosts() {
        List<Call> out = new ArrayList<>();
        for (int thing = 0; thing < things(); thing++) {
            for (int other = 0; other < things(); other++) {
                out.add(call("pair", thing, other, (thing + other) % 2 == 0));
            }
        }
        for (int thing = 0; thing < things(); thing++) {
            for (int n = 0; n < 3; n++) {
                out.add(call("most", thing, n));
            }
        }
        return out;
    }

    private List<Call> relating(String name) {
        List<Call> out = new ArrayList<>();
        for (int r = 0; r < counts(4); r++) {
            for (int a = 0; a < things(); a++) {
                for (int b = 0; b < things(); b++) {
                    out.add(call(name, r, a, b));
                }
            }
        }
        return out;
    }

    private List<Call> map() {
        List<Call> out = new ArrayList<>();
        for (int door = 0; door < things(); door++) {
            for (int room = 0; room < 3; room++) {
                out.add(call("door", door, room, 4, (room + 1) % 3));
            }
            out.add(call("open", door, true));
        }
        for (int room = 0; room < things(); room++) {
            for (int d = 0; d < 8; d++) {
                out.add(call("exit", room, d, (room + d) % 3));
            }
            out.add(call("route", 0, room, false));
            out.add(call("route", 0, room, true));
        }
        return out;
    }

    private List<Call> values() {
        List<Call> out = new ArrayList<>();
        for (int kind = 0; kind < counts(0); kind++) {
            out.add(call("thing", kind, 1));
            for (int property = 0; property < counts(1); property++) {
                out.add(call("value", counts(2) + kind, property));
            }
        }
        for (int property = 0; property < counts(1); property++) {
            for (int thing = 0; thing < things(); thing++) {
                out.add(call("give", thing, property, thing));
                out.add(call("give", thing, property, -9));
                out.add(call("value", thing, property));
            }
            out.add(call("usual", 0, property, 0));
        }
        return out;
    }

    private List<Call> rows() {
        List<Call> out = new ArrayList<>();
        for (int shelf = 0; shelf < counts(5); shelf++) {
            for (int thing = 0; thing < things(); thing++) {
                out.add(call("stand", shelf, thing, thing));
            }
            out.add(call("haul", shelf, 0, 0, 0, 2));
            out.add(call("stands", 0, 1));
        }
        for (int table = 0; table < counts(6); table++) {
            for (int column = 0; column < 5; column++) {
                out.add(call("total", table, column));
                out.add(call("rank", table, column, column % 2 == 0));
                out.add(call("blank", table, column, column));
                out.add(call("fill", table, column + 1, column, 1000 * column + 70));
                out.add(call("mean", table, column));
            }
        }
        return out;
    }

    private List<Call> more() {
        List<Call> out = new ArrayList<>(List.of(call("kind", 5), call("property", 0, 8, 0), call("relation", 5),
                call("shelf", 0, 1), call("table", 1, 1, 0), call("thing", 1, 1), call("make"), call("digest")));
        for (int thing = 0; thing < things(); thing++) {
            out.add(call("open", thing, true));
            out.add(call("remark", thing, 0, 7));
            out.add(call("remark", thing, 1, 8));
            out.add(call("says", thing, 3));
        }
        out.addAll(List.of(call("clear"), call("fault"), call("came"), call("digest")));
        for (int what = 0; what < 10; what++) {
            out.add(call("count", what));
        }
        return out;
    }
}
