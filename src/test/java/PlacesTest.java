/** Promises 19 to 23. */
public final class PlacesTest {
    private static final int UNKNOWN = -1, OUTSIDE = -2, STATE = -3, FULL = -4, NOWAY = -5, NONE = -9;
    private static final Due due = new Due();

    public static void main(String[] args) {
        amongRefusals();
        amongAgainst();
        pairs();
        mosts();
        settleLeast();
        settleBounds();
        settleFull();
        settleNoWay();
        due.end();
    }

    private static void amongRefusals() {
        WorldMake x = new WorldMake();
        int room = x.thing(1, 0);
        int door = x.thing(2, 0);
        int drop = x.thing(3, 0);
        int box = x.thing(4, 0);
        int t = x.thing(0, 0);
        due.is("19 no thing", x.among(5, 0), UNKNOWN);
        due.is("19 a bit of no thing", x.among(t, 33), UNKNOWN);
        due.is("19 highest bit", x.among(t, Long.MIN_VALUE), UNKNOWN);
        due.is("19 no bit", x.among(t, 0), OUTSIDE);
        due.is("19 outside ahead of state", x.among(room, 0), OUTSIDE);
        due.is("19 room", x.among(room, 8), STATE);
        due.is("19 door", x.among(door, 1), STATE);
        due.is("19 backdrop", x.among(drop, 1), STATE);
        due.is("19 itself", x.among(box, 9), STATE);
        due.is("19 no holder", x.among(t, 3), STATE);
        due.is("23 without", x.set(t), 0);
        due.is("23 unknown", x.set(5), 0);
        due.is("23 unknown below", x.set(-1), 0);
        due.is("19 among", x.among(t, 9), 0);
        due.is("23 set", x.set(t), 9);
        due.is("53 unsettled", x.count(7), 1);
        while (x.count(2) < 64) {
            x.thing(4, 0);
        }
        due.is("19 bit 63", x.among(box, Long.MIN_VALUE | 1), 1);
        due.is("52 lowest bits", x.sentence(1, 2), 1);
        due.is("52 sort", x.sentence(1, 0), 3);
        due.is("23 bit 63", x.set(box), Long.MIN_VALUE | 1);
        int p = x.property(0, 0, 0);
        while (x.count(3) < 300) {
            x.give(t, p, 1);
        }
        due.is("19 full", x.among(box, 1), FULL);
        due.is("19 full ahead of against", x.among(box, 1L << 40), FULL);
        due.is("19 state ahead of full", x.among(box, 8), STATE);
    }

    private static void amongAgainst() {
        WorldMake x = new WorldMake();
        for (int i = 0; i < 4; i++) {
            x.thing(1, 0);
        }
        int t = x.thing(0, 0);
        due.is("8 bar 1", x.bar(t, 1), 0);
        due.is("8 bar 0", x.bar(t, 0), 1);
        due.is("19 all barred", x.among(t, 3), Due.against(0));
        due.is("19 one barred", x.among(t, 1), Due.against(1));
        due.is("23 still without", x.set(t), 0);
        due.is("19 something left", x.among(t, 7), 2);
        due.is("23 without the barred ones", x.set(t), 4);
        due.is("19 nothing alike", x.among(t, 11), Due.against(2));
        due.is("19 more", x.among(t, 12), 3);
        due.is("23 what both have", x.set(t), 4);
        due.is("19 the latest", x.among(t, 8), Due.against(3));
        due.is("7 not in the set", x.put(t, 3), Due.against(3));
        due.is("7 put", x.put(t, 2), 4);
        due.is("53 settled", x.count(7), 0);
        due.is("19 the put first", x.among(t, 8), Due.against(4));
        due.is("19 with the put", x.among(t, 12), 5);
        due.is("23 what was told stays", x.set(t), 4);
    }

    private static void pairs() {
        WorldMake x = new WorldMake();
        int room = x.thing(1, 0);
        int hall = x.thing(1, 0);
        int door = x.thing(2, 0);
        int drop = x.thing(3, 0);
        int t = x.thing(0, 0);
        int u = x.thing(0, 0);
        int man = x.thing(5, 0);
        due.is("20 unknown", x.pair(7, t, true), UNKNOWN);
        due.is("20 unknown other", x.pair(t, -1, true), UNKNOWN);
        due.is("20 one", x.pair(t, t, true), STATE);
        due.is("20 room", x.pair(room, t, true), STATE);
        due.is("20 door", x.pair(t, door, true), STATE);
        due.is("20 backdrop", x.pair(drop, t, true), STATE);
        due.is("20 pair", x.pair(t, u, true), 0);
        due.is("20 again", x.pair(u, t, true), 1);
        due.is("20 the other way", x.pair(u, t, false), Due.against(0));
        due.is("53 pairs", x.count(9), 2);
        due.is("52 sort", x.sentence(1, 0), 4);
        due.is("52 one", x.sentence(1, 1), u);
        due.is("52 other", x.sentence(1, 2), t);
        due.is("7 man", x.put(man, room), 2);
        due.is("7 t", x.put(t, hall), 3);
        due.is("20 the later put", x.pair(t, man, true), Due.against(3));
        due.is("20 the later put, either way", x.pair(man, t, true), Due.against(3));
        due.is("20 not alike", x.pair(man, t, false), 4);
        due.is("7 against the first", x.put(u, room), Due.against(0));
        due.is("7 u", x.put(u, hall), 5);
        int w = x.thing(0, 0);
        due.is("7 w", x.put(w, hall), 6);
        due.is("20 in the same", x.pair(w, t, false), Due.against(6));
        while (x.count(9) < 16) {
            x.pair(t, u, true);
        }
        due.is("20 16 at most, ahead of against", x.pair(t, u, false), FULL);
        due.is("20 full", x.pair(t, u, true), FULL);
        due.is("20 state ahead of full", x.pair(t, t, true), STATE);
        due.is("53 16", x.count(9), 16);
    }

    private static void mosts() {
        WorldMake x = new WorldMake();
        int room = x.thing(1, 0);
        int box = x.thing(4, 0);
        int t = x.thing(0, 0);
        int u = x.thing(0, 0);
        int drop = x.thing(3, 0);
        due.is("21 unknown", x.most(5, -1), UNKNOWN);
        due.is("21 below", x.most(t, -1), OUTSIDE);
        due.is("21 above", x.most(t, 65), OUTSIDE);
        due.is("21 no holder", x.most(t, 64), STATE);
        due.is("7 backdrop", x.put(drop, room), 0);
        due.is("7 t", x.put(t, room), 1);
        due.is("7 u", x.put(u, room), 2);
        due.is("21 none may", x.most(room, 0), Due.against(1));
        due.is("21 one may", x.most(room, 1), Due.against(2));
        due.is("21 two may", x.most(room, 2), 3);
        due.is("21 it has one", x.most(room, 3), STATE);
        due.is("7 too many", x.put(box, room), Due.against(3));
        due.is("7 backdrops do not count", x.put(x.thing(3, 0), room), 4);
        due.is("21 64", x.most(box, 64), 5);
        due.is("52 sort", x.sentence(5, 0), 5);
        due.is("52 where", x.sentence(5, 1), box);
        due.is("52 n", x.sentence(5, 2), 64);
        int p = x.property(0, 0, 0);
        while (x.count(3) < 300) {
            x.give(t, p, 1);
        }
        int hall = x.thing(1, 0);
        due.is("21 full", x.most(hall, 1), FULL);
        due.is("21 state ahead of full", x.most(room, 1), STATE);
    }

    private static void settleLeast() {
        WorldMake x = new WorldMake();
        int room = x.thing(1, 0);
        int hall = x.thing(1, 0);
        int a = x.thing(4, 0);
        int b = x.thing(4, 0);
        int c = x.thing(0, 0);
        int d = x.thing(0, 0);
        due.is("22 nothing to settle", x.settle(), 0);
        x.among(d, 3);
        x.among(c, 3);
        x.among(a, 8);
        x.among(b, 6);
        x.most(room, 1);
        x.pair(c, d, false);
        x.pair(d, a, false);
        due.is("53 four", x.count(7), 4);
        due.is("49 unsettled", x.make(), STATE);
        due.is("22 settle", x.settle(), 4);
        due.is("a in b", x.place(a, 0), b);
        due.is("b not in a", x.place(b, 0), hall);
        due.is("c least", x.place(c, 0), room);
        due.is("d next", x.place(d, 0), hall);
        int from = x.count(3) - 4;
        for (int i = 0; i < 4; i++) {
            due.is("52 sort", x.sentence(from + i, 0), 0);
            due.is("52 by number", x.sentence(from + i, 1), a + i);
            due.is("52 holder", x.sentence(from + i, 2), x.place(a + i, 0));
        }
        due.is("7 as put", x.put(c, hall), Due.against(from + 2));
        due.is("53 none", x.count(7), 0);
        due.is("22 again", x.settle(), 0);
    }

    private static void settleBounds() {
        WorldMake x = new WorldMake();
        for (int i = 0; i < 8; i++) {
            x.thing(1, 0);
        }
        for (int i = 0; i < 8; i++) {
            x.thing(0, 0);
        }
        for (int i = 8; i < 16; i++) {
            x.among(i, 1);
        }
        due.is("22 eight", x.settle(), STATE);
        x.put(15, 0);
        due.is("22 seven", x.settle(), 7);

        WorldMake y = new WorldMake();
        for (int i = 0; i < 15; i++) {
            y.thing(1, 0);
        }
        for (int i = 0; i < 3; i++) {
            y.among(y.thing(0, 0), (1 << 15) - 1);
        }
        due.is("22 3375", y.settle(), STATE);
        y.bar(15, 0);
        y.bar(15, 1);
        due.is("22 2925", y.settle(), 3);
        due.is("22 without the barred ones", y.place(15, 0), 2);

        WorldMake z = new WorldMake();
        for (int i = 0; i < 15; i++) {
            z.thing(1, 0);
        }
        z.among(z.thing(0, 0), (1 << 15) - 1);
        z.among(z.thing(0, 0), (1 << 10) - 1);
        z.among(z.thing(0, 0), (1 << 10) - 1);
        z.among(z.thing(0, 0), 3);
        int twice = z.thing(0, 0);
        z.among(twice, 3);
        due.is("22 6000", z.settle(), STATE);
        z.put(twice, 0);
        due.is("22 3000", z.settle(), 4);
        z.among(z.thing(0, 0), (1 << 15) - 1);
        due.is("22 more", z.settle(), 1);
    }

    private static void settleFull() {
        WorldMake x = new WorldMake();
        x.thing(1, 0);
        int t = x.thing(4, 0);
        int u = x.thing(4, 0);
        int p = x.property(0, 0, 0);
        x.among(t, 4);
        x.among(u, 2);
        while (x.count(3) < 299) {
            x.give(t, p, 1);
        }
        due.is("22 full ahead of noway", x.settle(), FULL);
        x.give(t, p, 1);
        due.is("22 full", x.settle(), FULL);

        WorldMake y = new WorldMake();
        y.thing(1, 0);
        int w = y.thing(0, 0);
        y.among(w, 1);
        int q = y.property(0, 0, 0);
        while (y.count(3) < 299) {
            y.give(w, q, 1);
        }
        due.is("22 the last sentence", y.settle(), 1);
        due.is("53 300", y.count(3), 300);
        due.is("22 nothing to tell", y.settle(), 0);
    }

    private static void settleNoWay() {
        WorldMake x = new WorldMake();
        int room = x.thing(1, 0);
        int a = x.thing(4, 0);
        int b = x.thing(4, 0);
        int c = x.thing(4, 0);
        x.put(b, c);
        x.among(a, 4);
        x.among(c, 2);
        due.is("22 a ring of three", x.settle(), NOWAY);
        due.is("13 none was taken", x.place(a, 0), NONE);
        due.is("53 unsettled still", x.count(7), 2);
        due.is("53 no sentence", x.count(3), 3);
        due.is("14 no load", x.says(b, 2), 0);

        WorldMake y = new WorldMake();
        y.thing(1, 0);
        int t = y.thing(0, 0);
        int u = y.thing(0, 0);
        y.among(t, 1);
        y.among(u, 1);
        y.most(room, 1);
        due.is("22 too many", y.settle(), NOWAY);

        WorldMake z = new WorldMake();
        z.thing(1, 0);
        z.thing(1, 0);
        t = z.thing(0, 0);
        u = z.thing(0, 0);
        int w = z.thing(0, 0);
        z.put(w, 0);
        z.among(t, 3);
        z.among(u, 3);
        z.pair(t, w, false);
        z.pair(t, u, false);
        z.pair(u, w, false);
        due.is("22 pairs", z.settle(), NOWAY);
        due.is("20 of things that lie nowhere", z.pair(z.thing(0, 0), t, true), 6);
    }
}
