import java.util.ArrayList;
import java.util.Arrays;
import java.util.Comparator;
import java.util.HashMap;
import java.util.List;
import java.util.Map;
import java.util.TreeSet;

/**
 * The document once more, as plainly as can be: nearly nothing is kept but what was told, and every answer
 * is worked out anew from that. ModelTest compares WorldMake with it. It shares no code with WorldMake.
 */
public final class PlainWorld {
    private static final int UNKNOWN = -1, OUTSIDE = -2, STATE = -3, FULL = -4, NOWAY = -5, NONE = -9;

    private record Told(String sort, long... n) {
        int at(int i) {
            return (int) n[i];
        }
    }

    private record Property(int kind, int lane, int of) { }

    private static final class Thing {
        int kind, size, mark, own;
        boolean open;
    }

    private record Shelf(int base, Integer[] row) { }

    private record Table(int[] lanes, List<Object[]> rows) { }

    private record Exit(int sort, int to, int door, int by) { }

    private static final List<String> SORTS = List.of(
            "put", "bar", "give", "among", "pair", "most", "relate", "deny", "exit", "door");

    private final List<Integer> parents = new ArrayList<>();
    private final List<Property> properties = new ArrayList<>();
    private final Map<List<Integer>, Long> usuals = new HashMap<>();
    private final List<Thing> things = new ArrayList<>();
    private final List<Told> told = new ArrayList<>();
    private final List<Integer> forms = new ArrayList<>();
    private final List<Shelf> shelves = new ArrayList<>();
    private final List<Table> tables = new ArrayList<>();
    private final List<Integer> words = new ArrayList<>();
    private int fault;
    private int came;

    public PlainWorld() {
        clear();
    }

    private int fail(int n) {
        fault = n;
        return -10 - n;
    }

    private int tell(String sort, long... n) {
        told.add(new Told(sort, n));
        return told.size() - 1;
    }

    private boolean isKind(long k) {
        return k >= 0 && k < parents.size();
    }

    private boolean isThing(long t) {
        return t >= 0 && t < things.size();
    }

    private boolean isProperty(long p) {
        return p >= 0 && p < properties.size();
    }

    private int base(int thing) {
        return kindBase(things.get(thing).kind);
    }

    private int kindBase(int kind) {
        return kind < 6 ? kind : kindBase(parents.get(kind));
    }

    private boolean kindIs(int kind, int other) {
        return kind == other || kind != 0 && kindIs(parents.get(kind), other);
    }

    private boolean baseIs(int thing, int kind) {
        return kindIs(base(thing), kind);
    }

    private boolean isRoom(long t) {
        return isThing(t) && baseIs((int) t, 1);
    }

    private boolean isHolder(int t) {
        return baseIs(t, 1) || baseIs(t, 4);
    }

    private boolean sure(int t) {
        return !baseIs(t, 1) && !baseIs(t, 2) && !baseIs(t, 3);
    }

    private boolean full() {
        return told.size() == 300;
    }

    // ---- kinds, properties

    public int kind(int parent) {
        if (!isKind(parent)) return UNKNOWN;
        if (parents.size() == 24) return FULL;
        parents.add(parent);
        return parents.size() - 1;
    }

    public int is(int kind, int other) {
        if (!isKind(kind) || !isKind(other)) return UNKNOWN;
        return kindIs(kind, other) ? 1 : 0;
    }

    public int property(int kind, int lane, int of) {
        if (!isKind(kind)) return UNKNOWN;
        if (lane == 8 && !isKind(of)) return UNKNOWN;
        if (lane < 0 || lane > 8) return OUTSIDE;
        if (properties.size() == 12) return FULL;
        properties.add(new Property(kind, lane, of));
        return properties.size() - 1;
    }

    private static Object cell(int lane, long v) {
        switch (lane) {
            case 0: return v != 0;
            case 1: return (byte) v;
            case 2: return (short) v;
            case 3: return (char) v;
            case 4: return (int) v;
            case 5: return v;
            case 6: return (float) v;
            case 7: return (double) v;
            default: return v == NONE ? null : (Integer) (int) v;
        }
    }

    private static long tells(Object cell) {
        if (cell == null) return NONE;
        if (cell instanceof Boolean b) return b ? 1 : 0;
        if (cell instanceof Character c) return c;
        return ((Number) cell).longValue();
    }

    private boolean strange(int property, long v) {
        return properties.get(property).lane == 8 && v != NONE && !isThing(v);
    }

    private boolean unfit(int property, long v) {
        Property p = properties.get(property);
        return p.lane == 8 && v != NONE && !baseIs((int) v, kindBase(p.of));
    }

    public int usual(int kind, int property, long v) {
        if (!isKind(kind) || !isProperty(property) || strange(property, v)) return UNKNOWN;
        if (!kindIs(kind, properties.get(property).kind)) return STATE;
        if (unfit(property, v)) return fail(4);
        usuals.put(List.of(kind, property), v);
        return 1;
    }

    // ---- things

    public int thing(int kind, int size) {
        if (!isKind(kind)) return UNKNOWN;
        if (size < 0 || size > 1000) return OUTSIDE;
        if (things.size() == 64) return FULL;
        Thing t = new Thing();
        t.kind = kind;
        t.size = t.mark = t.own = size;
        things.add(t);
        return things.size() - 1;
    }

    private List<Integer> all(String sort, int first) {
        List<Integer> found = new ArrayList<>();
        for (int s = 0; s < told.size(); s++) {
            if (told.get(s).sort.equals(sort) && told.get(s).n[0] == first) found.add(s);
        }
        return found;
    }

    private List<Integer> homes(int thing) {
        List<Integer> found = new ArrayList<>();
        for (int s : all("put", thing)) found.add(told.get(s).at(1));
        return found;
    }

    private List<Integer> inside(int holder) {
        List<Integer> found = new ArrayList<>();
        for (Told s : told) if (s.sort.equals("put") && s.n[1] == holder) found.add(s.at(0));
        return found;
    }

    /** All that lies in a holder, however deep. */
    private TreeSet<Integer> within(int holder) {
        TreeSet<Integer> found = new TreeSet<>();
        for (int t : inside(holder)) {
            found.add(t);
            found.addAll(within(t));
        }
        return found;
    }

    public int put(int thing, int where) {
        if (!isThing(thing) || !isThing(where)) return UNKNOWN;
        if (baseIs(thing, 1) || baseIs(thing, 2)) return STATE;
        boolean drop = baseIs(thing, 3);
        if (drop ? !isRoom(where) : !isHolder(where)) return STATE;
        if (thing == where || within(thing).contains(where)) return STATE;
        if (homes(thing).contains(where)) return STATE;
        if (full() || drop && homes(thing).size() == 6) return FULL;
        if (!drop && !homes(thing).isEmpty()) return -100 - all("put", thing).get(0);
        for (int s : all("bar", thing)) if (told.get(s).n[1] == where) return -100 - s;
        List<Integer> amongs = all("among", thing);
        if (!amongs.isEmpty() && (set(thing) >> where & 1) == 0) return -100 - amongs.get(amongs.size() - 1);
        if (!drop) {
            for (int s : all("most", where)) {
                if (counted(where).size() >= told.get(s).n[1]) return -100 - s;
            }
        }
        for (int s = 0; s < told.size(); s++) {
            Told p = told.get(s);
            if (p.sort.equals("pair") && (p.n[0] == thing || p.n[1] == thing)) {
                int other = p.at(0) == thing ? p.at(1) : p.at(0);
                if (!homes(other).isEmpty() && homes(other).contains(where) != (p.n[2] == 1)) return -100 - s;
            }
        }
        return tell("put", thing, where);
    }

    private List<Integer> counted(int where) {
        List<Integer> found = inside(where);
        found.removeIf(t -> baseIs(t, 3));
        return found;
    }

    public int bar(int thing, int where) {
        if (!isThing(thing) || !isThing(where)) return UNKNOWN;
        if (baseIs(thing, 1) || baseIs(thing, 2) || !isHolder(where)) return STATE;
        if (full()) return FULL;
        for (int s : all("put", thing)) if (told.get(s).n[1] == where) return -100 - s;
        List<Integer> amongs = all("among", thing);
        if (set(thing) == 1L << where) return -100 - amongs.get(amongs.size() - 1);
        return tell("bar", thing, where);
    }

    public int give(int thing, int property, long v) {
        if (!isThing(thing) || !isProperty(property) || strange(property, v)) return UNKNOWN;
        Property p = properties.get(property);
        if (!kindIs(things.get(thing).kind, p.kind)) return STATE;
        if (full()) return FULL;
        if (unfit(property, v)) return fail(4);
        int by = given(thing, property);
        if (by >= 0 && tells(cell(p.lane, told.get(by).n[2])) != tells(cell(p.lane, v))) return -100 - by;
        return tell("give", thing, property, v);
    }

    public long value(int thing, int property) {
        if (!isThing(thing) || !isProperty(property)) return UNKNOWN;
        Property p = properties.get(property);
        if (!kindIs(things.get(thing).kind, p.kind)) return STATE;
        int by = given(thing, property);
        if (by >= 0) return tells(cell(p.lane, told.get(by).n[2]));
        for (int k = things.get(thing).kind; k >= 0; k = parents.get(k)) {
            Long v = usuals.get(List.of(k, property));
            if (v != null) return tells(cell(p.lane, v));
        }
        return p.lane == 8 ? NONE : 0;
    }

    public int given(int thing, int property) {
        if (!isThing(thing) || !isProperty(property)) return UNKNOWN;
        int found = NONE;
        for (int s : all("give", thing)) if (told.get(s).n[1] == property) found = s;
        return found;
    }

    public long peek(int property, int lane, int i) {
        if (!isProperty(property)) return UNKNOWN;
        if (lane < 0 || lane > 8) return OUTSIDE;
        if (lane != properties.get(property).lane) return fail(3);
        if (i < 0 || i > 63) return fail(2);
        int by = isThing(i) ? given(i, property) : NONE;
        return tells(cell(lane, by >= 0 ? told.get(by).n[2] : lane == 8 ? NONE : 0));
    }

    public int place(int thing, int k) {
        if (!isThing(thing)) return UNKNOWN;
        List<Integer> at = homes(thing);
        return k >= 0 && k < at.size() ? at.get(k) : NONE;
    }

    private int bulk(int t) {
        int size = things.get(t).size;
        switch (base(t)) {
            case 0: return size;
            case 1: return load(t);
            case 2: return size + size;
            case 3: return 0;
            case 4: return size + load(t);
            default: return size + load(t) + 10;
        }
    }

    private int load(int t) {
        int sum = 0;
        for (int in : inside(t)) sum += bulk(in);
        return sum;
    }

    public int says(int thing, int what) {
        if (!isThing(thing)) return UNKNOWN;
        if (what < 0 || what > 4) return OUTSIDE;
        Thing t = things.get(thing);
        int b = base(thing);
        if (what == 0) return bulk(thing);
        if (what == 1) {
            int w = t.size * 3 + 1;
            return b == 1 ? w + 1000 : b == 2 ? w + 100 : b == 3 ? -w : b == 5 ? w + w : w;
        }
        if (what == 2) return isHolder(thing) ? load(thing) : fail(3);
        if (what == 3) {
            if (b == 2) return t.own * 10 + (t.open ? 1 : 0);
            return b >= 4 ? t.own + (t.open ? 1000 : 0) : fail(3);
        }
        if (b != 5) return fail(3);
        return load(thing) == 0 ? fail(6) : 1000 / load(thing);
    }

    public int follow(int thing, int property, int what) {
        if (!isThing(thing) || !isProperty(property)) return UNKNOWN;
        if (what < 0 || what > 4) return OUTSIDE;
        long v = value(thing, property);
        if (!kindIs(things.get(thing).kind, properties.get(property).kind)) return STATE;
        if (properties.get(property).lane != 8) return fail(3);
        return v == NONE ? fail(1) : says((int) v, what);
    }

    private boolean lidded(int thing) {
        return baseIs(thing, 2) || baseIs(thing, 4);
    }

    public int mark(int thing, int how) {
        if (!isThing(thing)) return UNKNOWN;
        if (how < 0 || how > 1) return OUTSIDE;
        if (how == 0) return things.get(thing).mark;
        return lidded(thing) ? things.get(thing).own : fail(3);
    }

    public int remark(int thing, int how, int v) {
        if (!isThing(thing)) return UNKNOWN;
        if (how < 0 || how > 1 || v < 0 || v > 1000) return OUTSIDE;
        if (how == 1 && !lidded(thing)) return fail(3);
        int was = mark(thing, how);
        if (how == 0) things.get(thing).mark = v; else things.get(thing).own = v;
        return was;
    }

    public int open(int thing, boolean is) {
        if (!isThing(thing)) return UNKNOWN;
        if (!lidded(thing)) return fail(3);
        boolean was = things.get(thing).open;
        things.get(thing).open = is;
        return was ? 1 : 0;
    }

    // ---- places that are not sure

    public int among(int thing, long set) {
        if (!isThing(thing)) return UNKNOWN;
        for (int k = 0; k < 64; k++) if ((set >> k & 1) == 1 && !isThing(k)) return UNKNOWN;
        if (set == 0) return OUTSIDE;
        if (!sure(thing)) return STATE;
        for (int k = 0; k < things.size(); k++) {
            if ((set >> k & 1) == 1 && (k == thing || !isHolder(k))) return STATE;
        }
        if (full()) return FULL;
        if (!homes(thing).isEmpty() && (set >> homes(thing).get(0) & 1) == 0) return -100 - all("put", thing).get(0);
        List<Integer> amongs = all("among", thing);
        if (!amongs.isEmpty() && (set(thing) & set) == 0) return -100 - amongs.get(amongs.size() - 1);
        long left = set;
        int first = NONE;
        for (int s : all("bar", thing)) {
            if (first < 0 && (set >> told.get(s).at(1) & 1) == 1) first = s;
            left &= ~(1L << told.get(s).at(1));
        }
        return left == 0 ? -100 - first : tell("among", thing, set);
    }

    public int pair(int one, int other, boolean alike) {
        if (!isThing(one) || !isThing(other)) return UNKNOWN;
        if (one == other || !sure(one) || !sure(other)) return STATE;
        if (full() || count(9) == 16) return FULL;
        for (int s = 0; s < told.size(); s++) {
            Told p = told.get(s);
            boolean both = p.sort.equals("pair")
                    && (p.n[0] == one && p.n[1] == other || p.n[0] == other && p.n[1] == one);
            if (both && (p.n[2] == 1) != alike) return -100 - s;
        }
        if (!homes(one).isEmpty() && !homes(other).isEmpty() && homes(one).equals(homes(other)) != alike) {
            return -100 - Math.max(all("put", one).get(0), all("put", other).get(0));
        }
        return tell("pair", one, other, alike ? 1 : 0);
    }

    public int most(int where, int n) {
        if (!isThing(where)) return UNKNOWN;
        if (n < 0 || n > 64) return OUTSIDE;
        if (!isHolder(where) || !all("most", where).isEmpty()) return STATE;
        if (full()) return FULL;
        List<Integer> in = counted(where);
        if (in.size() > n) return -100 - all("put", in.get(n)).get(0);
        return tell("most", where, n);
    }

    private List<Integer> unsettled() {
        List<Integer> found = new ArrayList<>();
        for (int t = 0; t < things.size(); t++) {
            if (!all("among", t).isEmpty() && homes(t).isEmpty()) found.add(t);
        }
        return found;
    }

    public int settle() {
        List<Integer> loose = unsettled();
        if (loose.size() > 7) return STATE;
        long ways = 1;
        for (int t : loose) ways *= Long.bitCount(set(t));
        if (ways > 3000) return STATE;
        if (told.size() + loose.size() > 300) return FULL;
        for (long way = 0; way < ways; way++) {
            Map<Integer, Integer> at = new HashMap<>();
            for (int t = 0; t < things.size(); t++) {
                if (sure(t) && !homes(t).isEmpty()) at.put(t, homes(t).get(0));
            }
            long rest = way;
            for (int i = loose.size() - 1; i >= 0; i--) {
                int[] holders = bits(set(loose.get(i)));
                at.put(loose.get(i), holders[(int) (rest % holders.length)]);
                rest /= holders.length;
            }
            if (lets(at)) {
                for (int t : loose) tell("put", t, at.get(t));
                return loose.size();
            }
        }
        return NOWAY;
    }

    private static int[] bits(long set) {
        int[] found = new int[Long.bitCount(set)];
        int n = 0;
        for (int k = 0; k < 64; k++) if ((set >> k & 1) == 1) found[n++] = k;
        return found;
    }

    private boolean lets(Map<Integer, Integer> at) {
        for (int t : at.keySet()) {
            Integer up = at.get(t);
            for (int i = 0; i < 70 && up != null; i++) {
                if (up == t) return false;
                up = at.get(up);
            }
        }
        for (Told s : told) {
            if (s.sort.equals("most")) {
                int n = 0;
                for (int where : at.values()) if (where == s.n[0]) n++;
                if (n > s.n[1]) return false;
            }
            if (s.sort.equals("pair") && at.containsKey(s.at(0)) && at.containsKey(s.at(1))
                    && at.get(s.at(0)).equals(at.get(s.at(1))) != (s.n[2] == 1)) return false;
        }
        return true;
    }

    public long set(int thing) {
        if (!isThing(thing) || all("among", thing).isEmpty()) return 0;
        long set = -1;
        for (int s : all("among", thing)) set &= told.get(s).n[1];
        for (int s : all("bar", thing)) set &= ~(1L << told.get(s).at(1));
        return set;
    }

    // ---- relations

    public int relation(int form) {
        if (form < 0 || form > 5) return OUTSIDE;
        if (forms.size() == 8) return FULL;
        forms.add(form);
        return forms.size() - 1;
    }

    private boolean strange(int relation, int a, int b) {
        return relation < 0 || relation >= forms.size() || !isThing(a) || !isThing(b);
    }

    /** Whether a has b by the sentences ahead of one. */
    private boolean has(int relation, int a, int b, int ahead) {
        int form = forms.get(relation);
        if (form == 5) return group(relation, a, ahead).contains(b);
        for (int s = 0; s < ahead; s++) {
            Told t = told.get(s);
            if (t.sort.equals("relate") && t.n[0] == relation) {
                if (t.n[1] == a && t.n[2] == b) return true;
                if (form == 4 && t.n[1] == b && t.n[2] == a) return true;
            }
        }
        return false;
    }

    private TreeSet<Integer> group(int relation, int a, int ahead) {
        TreeSet<Integer> found = new TreeSet<>(List.of(a));
        int was = 0;
        while (was != found.size()) {
            was = found.size();
            for (int s = 0; s < ahead; s++) {
                Told t = told.get(s);
                if (t.sort.equals("relate") && t.n[0] == relation
                        && (found.contains(t.at(1)) || found.contains(t.at(2)))) {
                    found.add(t.at(1));
                    found.add(t.at(2));
                }
            }
        }
        return found;
    }

    private boolean has(int relation, int a, int b) {
        return has(relation, a, b, told.size());
    }

    public int relate(int relation, int a, int b) {
        if (strange(relation, a, b)) return UNKNOWN;
        if (a == b || has(relation, a, b)) return STATE;
        if (full()) return FULL;
        int form = forms.get(relation);
        List<Integer> as = form == 5 ? new ArrayList<>(group(relation, a, told.size())) : List.of(a);
        List<Integer> bs = form == 5 ? new ArrayList<>(group(relation, b, told.size())) : List.of(b);
        for (int s : all("deny", relation)) {
            int x = told.get(s).at(1);
            int y = told.get(s).at(2);
            if (as.contains(x) && bs.contains(y)) return -100 - s;
            if (form >= 4 && as.contains(y) && bs.contains(x)) return -100 - s;
        }
        if (form == 0 || form == 2) for (int s : all("relate", relation)) if (told.get(s).n[1] == a) return -100 - s;
        if (form == 0 || form == 1) for (int s : all("relate", relation)) if (told.get(s).n[2] == b) return -100 - s;
        return tell("relate", relation, a, b);
    }

    public int deny(int relation, int a, int b) {
        if (strange(relation, a, b)) return UNKNOWN;
        if (a == b) return STATE;
        for (int s : all("deny", relation)) if (told.get(s).n[1] == a && told.get(s).n[2] == b) return STATE;
        if (full()) return FULL;
        for (int s = 0; s < told.size(); s++) if (has(relation, a, b, s + 1)) return -100 - s;
        return tell("deny", relation, a, b);
    }

    public int related(int relation, int a, int b) {
        if (strange(relation, a, b)) return UNKNOWN;
        return has(relation, a, b) ? 1 : 0;
    }

    public int along(int relation, int a, int b) {
        if (strange(relation, a, b)) return UNKNOWN;
        TreeSet<Integer> at = new TreeSet<>(List.of(a));
        for (int steps = 0; steps < 64; steps++) {
            if (at.contains(b)) return steps;
            TreeSet<Integer> more = new TreeSet<>(at);
            for (int x : at) for (int y = 0; y < things.size(); y++) if (!more.contains(y) && has(relation, x, y)) more.add(y);
            if (more.size() == at.size()) return NONE;
            at = more;
        }
        return NONE;
    }

    public int next(int relation, int a, int b) {
        if (strange(relation, a, b)) return UNKNOWN;
        int far = along(relation, a, b);
        if (far <= 0) return NONE;
        for (int y = 0; y < things.size(); y++) {
            if (y != a && has(relation, a, y) && along(relation, y, b) == far - 1) return y;
        }
        return NONE;
    }

    // ---- the map

    private Map<List<Integer>, Exit> exits() {
        Map<List<Integer>, Exit> map = new HashMap<>();
        for (int s = 0; s < told.size(); s++) {
            Told t = told.get(s);
            if (t.sort.equals("exit")) {
                map.put(List.of(t.at(0), t.at(1)), new Exit(t.n[2] == NONE ? 4 : 2, t.at(2), NONE, s));
                if (t.n[2] != NONE) {
                    map.putIfAbsent(List.of(t.at(2), t.at(1) ^ 1), new Exit(1, t.at(0), NONE, NONE));
                }
            }
            if (t.sort.equals("door")) {
                map.put(List.of(t.at(1), t.at(2)), new Exit(3, t.at(3), t.at(0), s));
                map.put(List.of(t.at(3), t.at(2) ^ 1), new Exit(3, t.at(1), t.at(0), s));
            }
        }
        return map;
    }

    private Exit exitAt(int room, int d) {
        return exits().getOrDefault(List.of(room, d), new Exit(0, NONE, NONE, NONE));
    }

    public int exit(int room, int d, int to) {
        if (!isRoom(room) || to != NONE && !isRoom(to)) return UNKNOWN;
        if (d < 0 || d > 7) return OUTSIDE;
        Exit e = exitAt(room, d);
        if ((e.sort == 2 || e.sort == 4) && e.to == to) return STATE;
        if (full()) return FULL;
        if (e.by != NONE) return -100 - e.by;
        return tell("exit", room, d, to);
    }

    public int door(int door, int a, int d, int b) {
        if (!isThing(door) || !isRoom(a) || !isRoom(b)) return UNKNOWN;
        if (d < 0 || d > 7) return OUTSIDE;
        if (!baseIs(door, 2) || a == b) return STATE;
        if (full()) return FULL;
        if (!all("door", door).isEmpty()) return -100 - all("door", door).get(0);
        if (exitAt(a, d).by != NONE) return -100 - exitAt(a, d).by;
        if (exitAt(b, d ^ 1).by != NONE) return -100 - exitAt(b, d ^ 1).by;
        return tell("door", door, a, d, b);
    }

    public int leads(int room, int d) {
        if (!isRoom(room)) return UNKNOWN;
        return d < 0 || d > 7 ? OUTSIDE : exitAt(room, d).to;
    }

    public int sort(int room, int d) {
        if (!isRoom(room)) return UNKNOWN;
        return d < 0 || d > 7 ? OUTSIDE : exitAt(room, d).sort;
    }

    /** How far every thing is from b backwards, by trying all exits until nothing gets nearer. */
    private int[] distances(int b, boolean any) {
        int[] far = new int[things.size()];
        Arrays.fill(far, 1000);
        far[b] = 0;
        Map<List<Integer>, Exit> map = exits();
        boolean nearer = true;
        while (nearer) {
            nearer = false;
            for (Map.Entry<List<Integer>, Exit> e : map.entrySet()) {
                int from = e.getKey().get(0);
                int to = passes(e.getValue(), any);
                if (to >= 0 && far[to] + 1 < far[from]) {
                    far[from] = far[to] + 1;
                    nearer = true;
                }
            }
        }
        return far;
    }

    private int passes(Exit e, boolean any) {
        return e.door != NONE && !any && !things.get(e.door).open ? NONE : e.to;
    }

    public int route(int a, int b, boolean any) {
        if (!isRoom(a) || !isRoom(b)) return UNKNOWN;
        int far = distances(b, any)[a];
        return far == 1000 ? NONE : far;
    }

    public int first(int a, int b, boolean any) {
        if (!isRoom(a) || !isRoom(b)) return UNKNOWN;
        int[] far = distances(b, any);
        for (int d = 0; d < 8 && a != b && far[a] < 1000; d++) {
            int to = passes(exitAt(a, d), any);
            if (to >= 0 && far[to] == far[a] - 1) return d;
        }
        return NONE;
    }

    // ---- shelves

    private boolean isShelf(int s) {
        return s >= 0 && s < shelves.size();
    }

    public int shelf(int kind, int n) {
        if (!isKind(kind)) return UNKNOWN;
        if (n > 16) return OUTSIDE;
        if (shelves.size() == 10) return FULL;
        if (n < 0) return fail(5);
        shelves.add(new Shelf(kindBase(kind), new Integer[n]));
        return shelves.size() - 1;
    }

    public int stand(int shelf, int i, int thing) {
        if (!isShelf(shelf) || thing != NONE && !isThing(thing)) return UNKNOWN;
        Shelf s = shelves.get(shelf);
        if (i < 0 || i >= s.row.length) return fail(2);
        if (thing != NONE && !baseIs(thing, s.base)) return fail(4);
        s.row[i] = thing == NONE ? null : (Integer) thing;
        return 1;
    }

    public int stands(int shelf, int i) {
        if (!isShelf(shelf)) return UNKNOWN;
        Shelf s = shelves.get(shelf);
        if (i < 0 || i >= s.row.length) return fail(2);
        return s.row[i] == null ? NONE : s.row[i];
    }

    public int haul(int from, int i, int to, int j, int n) {
        if (!isShelf(from) || !isShelf(to)) return UNKNOWN;
        Integer[] was = shelves.get(from).row.clone();
        Integer[] row = shelves.get(to).row;
        if (i < 0 || j < 0 || n < 0 || (long) i + n > was.length || (long) j + n > row.length) return fail(2);
        for (came = 0; came < n; came++) {
            Integer thing = was[i + came];
            if (thing != null && !baseIs(thing, shelves.get(to).base)) return fail(4);
            row[j + came] = thing;
        }
        return n;
    }

    public int came() {
        return came;
    }

    // ---- tables

    private boolean isTable(int t) {
        return t >= 0 && t < tables.size();
    }

    private boolean isCell(int table, int row, int column) {
        return row >= 0 && row < tables.get(table).rows.size() && isColumn(table, column);
    }

    private boolean isColumn(int table, int column) {
        return column >= 0 && column < tables.get(table).lanes.length;
    }

    public int table(int rows, int columns, int lanes) {
        if (rows < 1 || rows > 16 || columns < 1 || columns > 5 || lanes < 0) return OUTSIDE;
        String digits = new StringBuilder(String.valueOf(lanes)).reverse().toString();
        if (digits.length() > columns || digits.matches(".*[89].*")) return OUTSIDE;
        if (tables.size() == 6) return FULL;
        int[] of = new int[columns];
        for (int c = 0; c < digits.length(); c++) of[c] = digits.charAt(c) - '0';
        List<Object[]> cells = new ArrayList<>();
        for (int r = 0; r < rows; r++) cells.add(new Object[columns]);
        tables.add(new Table(of, cells));
        return tables.size() - 1;
    }

    public int fill(int table, int row, int column, long v) {
        if (!isTable(table)) return UNKNOWN;
        if (!isCell(table, row, column)) return fail(2);
        tables.get(table).rows.get(row)[column] = cell(tables.get(table).lanes[column], v);
        return 1;
    }

    public int blank(int table, int row, int column) {
        if (!isTable(table)) return UNKNOWN;
        if (!isCell(table, row, column)) return fail(2);
        Object was = tables.get(table).rows.get(row)[column];
        tables.get(table).rows.get(row)[column] = null;
        return was == null ? 0 : 1;
    }

    public long read(int table, int row, int column) {
        if (!isTable(table)) return UNKNOWN;
        if (!isCell(table, row, column)) return fail(2);
        Object is = tables.get(table).rows.get(row)[column];
        return is == null ? fail(1) : tells(is);
    }

    public int choose(int table, int column, long v, int from) {
        if (!isTable(table)) return UNKNOWN;
        if (from < 0 || from > 15) return OUTSIDE;
        if (!isColumn(table, column)) return fail(2);
        for (int r = from; r < tables.get(table).rows.size(); r++) {
            Object is = tables.get(table).rows.get(r)[column];
            if (is != null && tells(is) == v) return r;
        }
        return NONE;
    }

    @SuppressWarnings("unchecked")
    public int rank(int table, int column, boolean falling) {
        if (!isTable(table)) return UNKNOWN;
        if (!isColumn(table, column)) return fail(2);
        List<Object[]> rows = tables.get(table).rows;
        List<Object[]> was = new ArrayList<>(rows);
        Comparator<Object> up = (a, b) -> ((Comparable<Object>) a).compareTo(b);
        Comparator<Object> by = Comparator.nullsLast(falling ? up.reversed() : up);
        rows.sort((a, b) -> by.compare(a[column], b[column]));
        int moved = 0;
        for (int r = 0; r < rows.size(); r++) if (rows.get(r) != was.get(r)) moved++;
        return moved;
    }

    public long total(int table, int column) {
        if (!isTable(table)) return UNKNOWN;
        if (!isColumn(table, column)) return fail(2);
        long sum = 0;
        for (Object[] row : tables.get(table).rows) if (row[column] != null) sum += tells(row[column]);
        return sum;
    }

    public long mean(int table, int column) {
        if (!isTable(table)) return UNKNOWN;
        if (!isColumn(table, column)) return fail(2);
        long n = tables.get(table).rows.stream().filter(row -> row[column] != null).count();
        return n == 0 ? fail(6) : total(table, column) / n;
    }

    // ---- all of it

    public int make() {
        boolean any = false;
        for (int t = 0; t < things.size(); t++) any |= isRoom(t);
        if (!any || !unsettled().isEmpty()) return STATE;
        words.clear();
        words.add(parents.size());
        words.add(things.size());
        for (int t = 0; t < things.size(); t++) {
            words.addAll(List.of(things.get(t).kind, place(t, 0), things.get(t).size));
            for (int p = 0; p < properties.size(); p++) {
                if (kindIs(things.get(t).kind, properties.get(p).kind)) words.add((int) value(t, p));
            }
        }
        for (int t = 0; t < things.size(); t++) {
            for (int d = 0; d < 8 && isRoom(t); d++) words.add(leads(t, d));
        }
        for (int r = 0; r < forms.size(); r++) {
            int couples = 0;
            for (int a = 0; a < things.size(); a++) {
                for (int b = 0; b < things.size(); b++) couples += a == b ? 0 : related(r, a, b);
            }
            words.addAll(List.of(forms.get(r), couples));
        }
        return words.size();
    }

    public int word(int i) {
        return i >= 0 && i < words.size() ? words.get(i) : NONE;
    }

    public long digest() {
        long h = 17;
        for (int w : words) h = 31 * h + w;
        return h;
    }

    public int sentence(int i, int what) {
        if (i < 0 || i >= told.size()) return UNKNOWN;
        if (what < 0 || what > 2) return OUTSIDE;
        return what == 0 ? SORTS.indexOf(told.get(i).sort) : told.get(i).at(what - 1);
    }

    public int count(int what) {
        switch (what) {
            case 0: return parents.size();
            case 1: return properties.size();
            case 2: return things.size();
            case 3: return told.size();
            case 4: return forms.size();
            case 5: return shelves.size();
            case 6: return tables.size();
            case 7: return unsettled().size();
            case 8: return words.size();
            case 9: return (int) told.stream().filter(s -> s.sort.equals("pair")).count();
            default: return OUTSIDE;
        }
    }

    public int fault() {
        return fault;
    }

    public int clear() {
        int there = things.size();
        parents.clear();
        parents.addAll(List.of(NONE, 0, 0, 0, 0, 4));
        properties.clear();
        usuals.clear();
        things.clear();
        told.clear();
        forms.clear();
        shelves.clear();
        tables.clear();
        words.clear();
        fault = 0;
        came = 0;
        return there;
    }
}
