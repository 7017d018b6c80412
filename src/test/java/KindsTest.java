/** Promises 1 to 5, and those of the values that things have: 9 to 12. */
public final class KindsTest {
    private static final int UNKNOWN = -1, OUTSIDE = -2, STATE = -3, FULL = -4, NONE = -9;
    private static final Due due = new Due();

    public static void main(String[] args) {
        newObject();
        kinds();
        properties();
        usuals();
        lanes();
        gives();
        thingsAsValues();
        peeks();
        due.end();
    }

    private static void newObject() {
        WorldMake x = new WorldMake();
        due.is("1 kinds", x.count(0), 6);
        for (int what = 1; what <= 9; what++) {
            due.is("1 count " + what, x.count(what), 0);
        }
        due.is("1 fault", x.fault(), 0);
        due.is("1 came", x.came(), 0);
        due.is("1 digest", x.digest(), 17);
        for (int kind = 1; kind < 5; kind++) {
            due.is("1 parent 0", x.is(kind, 0), 1);
            due.is("1 not the parent", x.is(0, kind), 0);
        }
        due.is("1 person is carrier", x.is(5, 4), 1);
        due.is("1 person is thing", x.is(5, 0), 1);
        due.is("1 carrier is no person", x.is(4, 5), 0);
        due.is("1 door is no room", x.is(2, 1), 0);
    }

    private static void kinds() {
        WorldMake x = new WorldMake();
        due.is("2 no such parent", x.kind(6), UNKNOWN);
        due.is("2 below 0", x.kind(-1), UNKNOWN);
        due.is("2 least", x.kind(Integer.MIN_VALUE), UNKNOWN);
        due.is("2 first", x.kind(5), 6);
        for (int n = 7; n < 24; n++) {
            due.is("2 kind", x.kind(n - 1), n);
        }
        due.is("2 unknown ahead of full", x.kind(24), UNKNOWN);
        due.is("2 full", x.kind(0), FULL);
        due.is("2 count", x.count(0), 24);
        due.is("3 itself", x.is(23, 23), 1);
        due.is("3 far up", x.is(23, 0), 1);
        due.is("3 person", x.is(23, 5), 1);
        due.is("3 carrier", x.is(23, 4), 1);
        due.is("3 no room", x.is(23, 1), 0);
        due.is("3 down", x.is(6, 23), 0);
        due.is("3 unknown", x.is(24, 0), UNKNOWN);
        due.is("3 unknown other", x.is(0, 24), UNKNOWN);
        due.is("3 below", x.is(0, -1), UNKNOWN);
    }

    private static void properties() {
        WorldMake x = new WorldMake();
        due.is("4 unknown kind", x.property(6, 0, 0), UNKNOWN);
        due.is("4 unknown of", x.property(0, 8, 6), UNKNOWN);
        due.is("4 of is not looked at", x.property(0, 7, 99), 0);
        due.is("4 unknown ahead of outside", x.property(-1, 9, 0), UNKNOWN);
        due.is("4 lane", x.property(0, 9, 0), OUTSIDE);
        due.is("4 lane below", x.property(0, -1, 0), OUTSIDE);
        due.is("4 lane 9, of not looked at", x.property(0, 9, 77), OUTSIDE);
        for (int n = 1; n < 12; n++) {
            due.is("4 property", x.property(1, n % 9, 0), n);
        }
        due.is("4 outside ahead of full", x.property(0, 9, 0), OUTSIDE);
        due.is("4 full", x.property(0, 0, 0), FULL);
        due.is("4 count", x.count(1), 12);
    }

    private static void usuals() {
        WorldMake x = new WorldMake();
        int box = x.kind(4);
        int chest = x.kind(box);
        int p = x.property(4, 4, 0);
        int c = x.thing(chest, 1);
        due.is("5 unknown kind", x.usual(9, p, 1), UNKNOWN);
        due.is("5 unknown property", x.usual(4, 1, 1), UNKNOWN);
        due.is("5 kind is none of it", x.usual(0, p, 1), STATE);
        due.is("10 nothing told", x.value(c, p), 0);
        due.is("5 usual", x.usual(4, p, 7), 1);
        due.is("10 far usual", x.value(c, p), 7);
        due.is("5 nearer", x.usual(box, p, 8), 1);
        due.is("10 nearer usual", x.value(c, p), 8);
        due.is("5 nearest", x.usual(chest, p, (1L << 32) + 9), 1);
        due.is("10 nearest usual", x.value(c, p), 9);
        due.is("5 again", x.usual(chest, p, 0), 1);
        due.is("10 usual 0 is one", x.value(c, p), 0);
        due.is("9 give", x.give(c, p, 5), 0);
        due.is("10 given", x.value(c, p), 5);
        due.is("10 carrier has its own", x.value(x.thing(4, 0), p), 7);
        due.is("5 no sentence", x.count(3), 1);

        int q = x.property(0, 8, 5);
        due.is("5 v unknown", x.usual(0, q, 2), UNKNOWN);
        due.is("5 v unknown below", x.usual(0, q, -1), UNKNOWN);
        due.is("5 v beyond an int", x.usual(0, q, 1L << 32), UNKNOWN);
        due.is("5 v is no person", x.usual(0, q, c), Due.STORE);
        due.is("5 fault", x.fault(), 4);
        due.is("5 nothing is taken", x.usual(0, q, NONE), 1);
        int man = x.thing(5, 0);
        due.is("5 person is taken", x.usual(0, q, man), 1);
        due.is("10 person", x.value(c, q), man);
        int r = x.property(4, 8, 5);
        due.is("5 unknown ahead of state", x.usual(0, r, 77), UNKNOWN);
        due.is("5 state ahead of store", x.usual(0, r, c), STATE);
    }

    private static void lanes() {
        WorldMake x = new WorldMake();
        int t = x.thing(0, 1);
        long v = 0x7fff_ffff_ffff_ff85L;
        long[] told = {1, (byte) v, (short) v, (char) v, (int) v, v, Long.MAX_VALUE, Long.MAX_VALUE};
        for (int lane = 0; lane < 8; lane++) {
            due.is("lane " + lane, x.property(0, lane, 0), lane);
            due.is("none given " + lane, x.value(t, lane), 0);
            due.is("give " + lane, x.give(t, lane, v), lane);
            due.is("tells " + lane, x.value(t, lane), told[lane]);
        }
        WorldMake y = new WorldMake();
        int s = y.thing(0, 1);
        y.property(0, 6, 0);
        y.property(0, 7, 0);
        y.give(s, 0, 16777217);
        due.is("nearest float", y.value(s, 0), 16777216);
        y.give(s, 1, -9007199254740993L);
        due.is("nearest double", y.value(s, 1), -9007199254740992L);
    }

    private static void gives() {
        WorldMake x = new WorldMake();
        int t = x.thing(0, 1);
        int room = x.thing(1, 1);
        int p = x.property(0, 1, 0);
        int q = x.property(1, 0, 0);
        due.is("9 no thing", x.give(2, p, 1), UNKNOWN);
        due.is("9 no property", x.give(t, 2, 1), UNKNOWN);
        due.is("9 none of those", x.give(t, q, 1), STATE);
        due.is("10 none of those", x.value(t, q), STATE);
        due.is("10 no thing", x.value(-1, q), UNKNOWN);
        due.is("10 no property", x.value(0, -1), UNKNOWN);
        due.is("11 none", x.given(t, p), NONE);
        due.is("11 none of those", x.given(t, q), NONE);
        due.is("11 no thing", x.given(2, p), UNKNOWN);
        due.is("11 no property", x.given(t, 2), UNKNOWN);
        due.is("9 give", x.give(t, p, 257), 0);
        due.is("9 another", x.give(t, p, 2), Due.against(0));
        due.is("9 the cell tells the same", x.give(t, p, 1), 1);
        due.is("11 the latest", x.given(t, p), 1);
        due.is("9 against the latest", x.give(t, p, 0), Due.against(1));
        due.is("10 value", x.value(t, p), 1);
        due.is("9 truth", x.give(room, q, 5), 2);
        due.is("9 other truth", x.give(room, q, 0), Due.against(2));
        due.is("9 same truth", x.give(room, q, -1), 3);
        due.is("52 sort", x.sentence(3, 0), 2);
        due.is("52 thing", x.sentence(3, 1), room);
        due.is("52 property", x.sentence(3, 2), q);
        while (x.count(3) < 300) {
            x.give(t, p, 1);
        }
        due.is("9 full ahead of against", x.give(t, p, 2), FULL);
        due.is("9 state ahead of full", x.give(t, q, 2), STATE);
        due.is("11 299", x.given(t, p), 299);
    }

    private static void thingsAsValues() {
        WorldMake x = new WorldMake();
        int sub = x.kind(5);
        int q = x.property(0, 8, sub);
        int t = x.thing(0, 1);
        int box = x.thing(4, 1);
        int man = x.thing(5, 1);
        int other = x.thing(sub, 1);
        due.is("10 nothing", x.value(t, q), NONE);
        due.is("9 v unknown", x.give(t, q, 4), UNKNOWN);
        due.is("9 v unknown, wide", x.give(t, q, 1L << 40), UNKNOWN);
        due.is("9 store", x.give(t, q, box), Due.STORE);
        due.is("54 store", x.fault(), 4);
        due.is("9 by its base", x.give(t, q, man), 0);
        due.is("9 another person", x.give(t, q, other), Due.against(0));
        due.is("9 nothing instead", x.give(t, q, NONE), Due.against(0));
        due.is("10 man", x.value(t, q), man);
        due.is("9 nothing", x.give(box, q, NONE), 1);
        x.usual(0, q, other);
        due.is("10 given nothing", x.value(box, q), NONE);
        due.is("10 usual", x.value(man, q), other);
        due.is("9 store ahead of against", x.give(t, q, box), Due.STORE);
        int p = x.property(0, 0, 0);
        while (x.count(3) < 300) {
            x.give(t, p, 1);
        }
        due.is("9 full ahead of store", x.give(t, q, box), FULL);
        due.is("54 still", x.fault(), 4);
    }

    private static void peeks() {
        WorldMake x = new WorldMake();
        int t = x.thing(0, 1);
        int p = x.property(0, 3, 0);
        int q = x.property(0, 8, 0);
        due.is("12 unknown", x.peek(2, 3, 0), UNKNOWN);
        due.is("12 lane", x.peek(p, 9, 0), OUTSIDE);
        due.is("12 lane below", x.peek(p, -1, 0), OUTSIDE);
        due.is("12 cast ahead of index", x.peek(p, 2, 64), Due.CAST);
        due.is("54 cast", x.fault(), 3);
        due.is("12 index", x.peek(p, 3, 64), Due.INDEX);
        due.is("12 index below", x.peek(p, 3, -1), Due.INDEX);
        due.is("54 index", x.fault(), 2);
        due.is("12 empty", x.peek(p, 3, 63), 0);
        due.is("12 nothing", x.peek(q, 8, 63), NONE);
        x.usual(0, p, 4);
        due.is("12 usual is not given", x.peek(p, 3, t), 0);
        x.give(t, p, -1);
        due.is("12 char", x.peek(p, 3, t), 65535);
        x.give(t, q, t);
        due.is("12 thing", x.peek(q, 8, t), t);
    }
}
