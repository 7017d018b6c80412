import java.lang.reflect.Method;
import java.util.ArrayList;
import java.util.Arrays;
import java.util.Comparator;
import java.util.HashMap;
import java.util.List;
import java.util.Map;
import java.util.Random;

/**
 * Random runs of 512 calls, each call on a WorldMake and on a PlainWorld, which must answer alike.
 * Arguments: how many runs (400 without), the first seed (1 without).
 */
public final class ModelTest {
    private static final String[] THEMES = {
        "kind is property usual thing give value given peek follow says clear",
        "thing put bar place says most pair among settle set count",
        "thing among pair most settle set bar put count sentence",
        "thing relation relate deny related along next make",
        "thing exit door leads sort route first open make",
        "thing kind shelf stand stands haul came fault",
        "table fill blank read choose rank total mean fault",
        "thing mark remark open says follow property give put fault",
        "",
    };

    private static final List<String> MAKERS = List.of("kind", "property", "relation", "shelf", "table", "clear");

    /** What each number of a call is like: K kind, T thing, R room, H holder, P property, and so on. */
    private static final Map<String, String> SPECS = new HashMap<>();

    static {
        String all = "kind:K is:KK property:KLK usual:KPV thing:Ks put:TH bar:TH give:TPV value:TP given:TP peek:PLi "
                + "place:Tk says:Tw follow:TPw mark:Tk remark:Tks open:Tb among:TM pair:TTb most:Hk settle: set:T "
                + "relation:w relate:rTT deny:rTT related:rTT along:rTT next:rTT exit:RdR door:TRdR leads:Rd sort:Rd "
                + "route:RRb first:RRb shelf:Kj stand:hjT stands:hj haul:hjhjj came: table:jcD fill:tjcV blank:tjc "
                + "read:tjc choose:tcVj rank:tcb total:tc mean:tc make: word:i digest: sentence:ik count:o fault: clear:";
        for (String one : all.split(" ")) {
            String[] halves = one.split(":", -1);
            SPECS.put(halves[0], halves[1]);
        }
    }

    private final Random random;
    private final WorldMake x = new WorldMake();
    private final PlainWorld y = new PlainWorld();
    private final List<Method> often = new ArrayList<>();
    private final boolean tame;
    private final int span;

    private ModelTest(long seed, List<Method> methods) {
        random = new Random(seed);
        tame = random.nextInt(3) != 0;
        span = 2 + random.nextInt(14);
        String theme = THEMES[random.nextInt(THEMES.length)];
        String[] names = theme.split(" ");
        for (Method m : methods) {
            boolean fits = Arrays.asList(names).contains(m.getName());
            int weight = fits ? 4 + random.nextInt(30) : m.getName().equals("clear") ? 0 : 1;
            if (MAKERS.contains(m.getName())) {
                weight = Math.min(weight, 6);
            }
            for (int i = 0; i < weight; i++) {
                often.add(m);
            }
        }
    }

    public static void main(String[] args) throws Exception {
        int runs = args.length > 0 ? Integer.parseInt(args[0]) : 400;
        long seed = args.length > 1 ? Long.parseLong(args[1]) : 1;
        List<Method> methods = new ArrayList<>();
        for (Method m : PlainWorld.class.getDeclaredMethods()) {
            if (SPECS.containsKey(m.getName()) && java.lang.reflect.Modifier.isPublic(m.getModifiers())) {
                methods.add(m);
            }
        }
        methods.sort(Comparator.comparing(Method::getName));
        if (methods.size() != 54) {
            System.out.println(methods.size() + " methods, not 54");
            System.exit(1);
        }
        Map<String, Map<Long, Integer>> seen = new HashMap<>();
        for (int i = 0; i < runs; i++) {
            if (!new ModelTest(seed + i, methods).run(seen)) {
                System.out.println("seed " + (seed + i));
                System.exit(1);
            }
        }
        if (args.length > 2) {
            seen.entrySet().stream().sorted(Map.Entry.comparingByKey()).forEach(System.out::println);
        }
        System.out.println(runs + " runs, all answers alike");
    }

    private boolean run(Map<String, Map<Long, Integer>> seen) throws Exception {
        List<String> calls = new ArrayList<>();
        for (int i = 0; i < 512; i++) {
            Method plain = i < span ? PlainWorld.class.getMethod("thing", int.class, int.class) : nextMethod();
            Object[] numbers = numbers(plain);
            Method made = WorldMake.class.getMethod(plain.getName(), plain.getParameterTypes());
            long want = ((Number) plain.invoke(y, numbers)).longValue();
            calls.add(plain.getName() + Arrays.toString(numbers) + " = " + want);
            long got = ((Number) made.invoke(x, numbers)).longValue();
            if (got != want || x.fault() != y.fault()) {
                calls.forEach(System.out::println);
                System.out.println("but answered " + got + ", faults " + x.fault() + " and " + y.fault());
                return false;
            }
            long key = want <= -100 && want >= -400 ? -100 : want >= 0 ? 0 : want;
            seen.computeIfAbsent(plain.getName(), k -> new HashMap<>()).merge(key, 1, Integer::sum);
        }
        return true;
    }

    /** Few things, so that calls meet the same ones often; in a wild run as many as come. */
    private Method nextMethod() {
        Method m = often.get(random.nextInt(often.size()));
        for (int tries = 0; tries < 5 && tame && y.count(2) > span && m.getName().equals("thing"); tries++) {
            m = often.get(random.nextInt(often.size()));
        }
        return m;
    }

    private Object[] numbers(Method m) {
        String spec = SPECS.get(m.getName());
        Object[] out = new Object[spec.length()];
        for (int i = 0; i < out.length; i++) {
            Class<?> type = m.getParameterTypes()[i];
            if (type == boolean.class) {
                out[i] = random.nextBoolean();
            } else if (type == long.class) {
                out[i] = spec.charAt(i) == 'M' ? set() : value();
            } else {
                out[i] = number(spec.charAt(i));
            }
        }
        return out;
    }

    private int number(char like) {
        if (!tame && random.nextInt(40) == 0) {
            int[] odd = {-1, -2, -9, Integer.MIN_VALUE, Integer.MAX_VALUE, 64, 1000, 1001};
            return odd[random.nextInt(odd.length)];
        }
        switch (like) {
            case 'K': return below(y.count(0));
            case 'T': return below(y.count(2));
            case 'R': return pick(1, 1);
            case 'H': return pick(1, 5);
            case 'P': return below(y.count(1));
            case 'r': return below(y.count(4));
            case 'h': return below(y.count(5));
            case 't': return below(y.count(6));
            case 'L': return random.nextInt(9);
            case 's': return random.nextInt(12);
            case 'i': return random.nextInt(random.nextBoolean() ? 70 : 310);
            case 'k': return random.nextInt(3);
            case 'w': return random.nextInt(6);
            case 'd': return random.nextInt(random.nextInt(8) + 1);
            case 'j': return random.nextInt(random.nextInt(16) + 1);
            case 'c': return random.nextInt(6);
            case 'o': return random.nextInt(10);
            case 'D': return digits();
            default: throw new IllegalStateException("spec " + like);
        }
    }

    private int digits() {
        int out = 0;
        for (int n = random.nextInt(6); n > 0; n--) {
            out = out * 10 + random.nextInt(random.nextInt(20) == 0 ? 10 : 8);
        }
        return out;
    }

    /** Mostly below n, sometimes just at it. */
    private int below(int n) {
        return random.nextInt(n + (random.nextInt(10) == 0 ? 1 : 0) + (n == 0 ? 1 : 0));
    }

    /** A thing whose base lies between two (rooms, holders), if one is soon found; sometimes nothing. */
    private int pick(int least, int most) {
        if (least == most && random.nextInt(12) == 0) {
            return -9;
        }
        for (int tries = 0; tries < 12; tries++) {
            int t = below(y.count(2));
            boolean room = y.leads(t, 0) != -1;
            if (room || most == 5 && !room && y.most(t, -1) == -2 && random.nextBoolean()) {
                return t;
            }
        }
        return below(y.count(2));
    }

    private long set() {
        long out = 0;
        for (int n = random.nextInt(4); n >= 0; n--) {
            out |= 1L << pick(1, 5);
        }
        return random.nextInt(30) == 0 ? random.nextLong() : random.nextInt(50) == 0 ? 0 : out;
    }

    private long value() {
        switch (random.nextInt(6)) {
            case 0: return random.nextLong();
            case 1: return -9;
            case 2: return Long.MIN_VALUE >> random.nextInt(64);
            case 3: return random.nextInt(300) - 20;
            default: return below(y.count(2));
        }
    }
}
