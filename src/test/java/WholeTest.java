/** Promises 49 to 55. */
public final class WholeTest {
    private static final int UNKNOWN = -1, OUTSIDE = -2, STATE = -3, NONE = -9;
    private static final Due due = new Due();

    public static void main(String[] args) {
        words();
        couples();
        couplesOfGroups();
        mostWords();
        sentences();
        counts();
        clear();
        due.end();
    }

    private static void words() {
        WorldMake x = new WorldMake();
        due.is("49 no room", x.make(), STATE);
        due.is("50 none", x.word(0), NONE);
        due.is("51 none", x.digest(), 17);
        int t = x.thing(0, 8);
        due.is("49 still no room", x.make(), STATE);
        int room = x.thing(1, 3);
        int far = x.property(0, 5, 0);
        int near = x.property(1, 8, 0);
        x.usual(0, far, (5L << 32) | 6);
        x.put(t, room);
        x.exit(room, 3, room);
        x.relation(3);
        x.relate(0, 1, 0);
        x.give(room, near, t);
        int[] wanted = {6, 2, 0, room, 8, 6, 1, NONE, 3, 6, t,
            NONE, NONE, room, room, NONE, NONE, NONE, NONE, 3, 1};
        due.is("49 words", x.make(), wanted.length);
        long h = 17;
        for (int i = 0; i < wanted.length; i++) {
            due.is("50 word " + i, x.word(i), wanted[i]);
            h = 31 * h + wanted[i];
        }
        due.is("50 behind", x.word(wanted.length), NONE);
        due.is("50 below", x.word(-1), NONE);
        due.is("51 digest", x.digest(), h);
        due.is("53 words", x.count(8), wanted.length);
        int u = x.thing(0, 0);
        due.is("53 words stay", x.count(8), wanted.length);
        x.among(u, 1L << room);
        due.is("49 unsettled", x.make(), STATE);
        due.is("51 digest stays", x.digest(), h);
        x.settle();
        due.is("49 anew", x.make(), wanted.length + 4);
        due.is("50 three things", x.word(1), 3);
    }

    private static void couples() {
        WorldMake x = new WorldMake();
        for (int i = 0; i < 5; i++) {
            x.thing(i == 0 ? 1 : 0, 0);
        }
        x.relation(2);
        x.relation(4);
        x.relation(5);
        x.relate(0, 1, 2);
        x.relate(0, 2, 1);
        x.relate(1, 1, 2);
        x.relate(1, 3, 4);
        x.relate(1, 4, 0);
        x.relate(2, 1, 2);
        x.relate(2, 2, 3);
        int n = x.make();
        due.is("49 words", n, 2 + 5 * 3 + 8 + 6);
        due.is("49 form", x.word(n - 6), 2);
        due.is("49 many to one", x.word(n - 5), 2);
        due.is("49 each other", x.word(n - 3), 6);
        // A couple is of two: 6 of the group of three, none of those that are alone.
        due.is("49 groups", x.word(n - 1), 6);
        due.is("27 a thing with itself", x.related(2, 4, 4), 1);
    }

    private static void couplesOfGroups() {
        WorldMake x = new WorldMake();
        x.thing(1, 0);
        x.relation(5);
        due.is("49 words of one", x.make(), 15);
        due.is("49 one thing, no couple", x.word(14), 0);
        due.is("51 one thing, no couple", x.digest(), 8907379409805641017L);
        for (int i = 1; i < 64; i++) {
            x.thing(0, 0);
        }
        x.make();
        due.is("49 all alone", x.word(x.count(8) - 1), 0);
        for (int i = 1; i < 64; i++) {
            x.relate(0, i - 1, i);
        }
        x.make();
        due.is("49 all together", x.word(x.count(8) - 1), 64 * 63);
    }

    private static void mostWords() {
        WorldMake x = new WorldMake();
        for (int i = 0; i < 64; i++) {
            x.thing(1, 0);
        }
        for (int p = 0; p < 12; p++) {
            x.property(0, 8, 0);
        }
        for (int r = 0; r < 8; r++) {
            x.relation(r % 6);
        }
        due.is("49 all", x.make(), 2 + 64 * 15 + 64 * 8 + 16);
        due.is("50 the last", x.word(1489), 0);
        due.is("50 a value", x.word(5), NONE);
    }

    private static void sentences() {
        WorldMake x = new WorldMake();
        due.is("52 none", x.sentence(0, 0), UNKNOWN);
        x.thing(1, 0);
        x.thing(0, 0);
        x.put(1, 0);
        due.is("52 unknown ahead", x.sentence(1, 3), UNKNOWN);
        due.is("52 below", x.sentence(-1, 0), UNKNOWN);
        due.is("52 outside", x.sentence(0, 3), OUTSIDE);
        due.is("52 outside below", x.sentence(0, -1), OUTSIDE);
        due.is("52 one", x.sentence(0, 1), 1);
        due.is("52 two", x.sentence(0, 2), 0);
    }

    private static void counts() {
        WorldMake x = new WorldMake();
        due.is("53 outside", x.count(10), OUTSIDE);
        due.is("53 outside below", x.count(-1), OUTSIDE);
    }

    private static void clear() {
        WorldMake x = new WorldMake();
        due.is("55 none", x.clear(), 0);
        int k = x.kind(1);
        int room = x.thing(k, 1);
        int hall = x.thing(1, 1);
        int box = x.thing(4, 1);
        int t = x.thing(0, 1);
        int p = x.property(0, 8, 0);
        x.usual(0, p, room);
        x.give(t, p, t);
        x.put(t, box);
        x.among(box, 3);
        x.bar(box, room);
        x.most(hall, 1);
        x.pair(t, box, false);
        x.open(box, true);
        x.remark(box, 1, 9);
        x.settle();
        x.relation(5);
        x.relate(0, 0, 1);
        x.exit(room, 0, hall);
        x.shelf(0, 3);
        x.stand(0, 1, t);
        x.haul(0, 0, 0, 1, 2);
        x.table(1, 1, 5);
        x.fill(0, 0, 0, 5);
        x.make();
        x.mark(t, 1);
        due.is("55 four", x.clear(), 4);
        due.is("55 kinds", x.count(0), 6);
        for (int what = 1; what <= 9; what++) {
            due.is("55 count " + what, x.count(what), 0);
        }
        due.is("55 fault", x.fault(), 0);
        due.is("55 came", x.came(), 0);
        due.is("55 word", x.word(0), NONE);
        due.is("55 digest", x.digest(), 17);
        afterClear(x);
    }

    private static void afterClear(WorldMake x) {
        int room = x.thing(1, 2);
        int hall = x.thing(1, 2);
        int box = x.thing(4, 2);
        int t = x.thing(0, 2);
        due.is("55 property", x.property(0, 8, 0), 0);
        due.is("55 no usual", x.value(t, 0), NONE);
        due.is("55 not given", x.given(t, 0), NONE);
        due.is("55 cell", x.peek(0, 8, t), NONE);
        due.is("55 nowhere", x.place(box, 0), NONE);
        due.is("55 no set", x.set(box), 0);
        due.is("55 not barred", x.put(box, room), 0);
        due.is("55 no pair", x.put(t, room), 1);
        due.is("55 no most", x.most(hall, 0), 2);
        due.is("55 not open", x.open(box, false), 0);
        due.is("55 mark", x.mark(box, 1), 2);
        due.is("55 relation", x.relation(5), 0);
        due.is("55 not related", x.related(0, 0, 1), 0);
        due.is("55 no exit", x.sort(room, 0), 0);
        due.is("55 none assumed", x.sort(hall, 1), 0);
        due.is("55 shelf", x.shelf(0, 3), 0);
        due.is("55 nothing stands", x.stands(0, 1), NONE);
        due.is("55 table", x.table(1, 1, 5), 0);
        due.is("55 blank", x.blank(0, 0, 0), 0);
    }
}
