/** Everything at its greatest number at once, where a step too far would leave a row; and the sentence 0. */
public final class EdgesTest {
    private static final int STATE = -3, FULL = -4, NOWAY = -5, NONE = -9;
    private static final Due due = new Due();

    public static void main(String[] args) {
        greatestTable();
        greatestShelves();
        allPairs();
        allSentences();
        settleOfMany();
        longWays();
        sentenceZero();
        deepKinds();
        due.end();
    }

    private static void greatestTable() {
        WorldMake x = new WorldMake();
        for (int n = 0; n < 6; n++) {
            x.table(16, 5, 55555);
        }
        for (int row = 0; row < 16; row++) {
            for (int column = 0; column < 5; column++) {
                due.is("42 fill", x.fill(5, row, column, 100 * column - row), 1);
            }
        }
        due.is("46 all but none stay", x.rank(5, 4, false), 16);
        for (int row = 0; row < 16; row++) {
            due.is("44 turned", x.read(5, row, 3), 285 + row);
        }
        due.is("47 total", x.total(5, 4), 16 * 400 - 120);
        due.is("48 mean", x.mean(5, 4), 392);
        due.is("45 the last", x.choose(5, 0, 0, 15), 15);
        due.is("45 none", x.choose(5, 0, 1, 15), NONE);
        due.is("43 the last", x.blank(5, 15, 4), 1);
        due.is("44 other tables stay", x.read(4, 15, 4), Due.NULL);
    }

    private static void greatestShelves() {
        WorldMake x = new WorldMake();
        for (int n = 0; n < 10; n++) {
            x.shelf(n % 6, 16);
        }
        int t = x.thing(0, 0);
        due.is("37 the last", x.stand(6, 15, t), 1);
        due.is("39 all", x.haul(6, 0, 0, 0, 16), 16);
        due.is("38 the last", x.stands(0, 15), t);
        due.is("39 store at the last", x.haul(6, 0, 9, 0, 16), Due.STORE);
        due.is("40 fifteen", x.came(), 15);
    }

    private static void allPairs() {
        WorldMake x = new WorldMake();
        int room = x.thing(1, 0);
        int hall = x.thing(1, 0);
        int t = x.thing(0, 0);
        for (int p = 0; p < 16; p++) {
            due.is("20 pair", x.pair(t, x.thing(0, 0), p < 15), p);
        }
        due.is("7 put the last", x.put(18, room), 16);
        due.is("7 against the last pair", x.put(t, room), Due.against(15));
        due.is("7 put", x.put(t, hall), 17);
        due.is("7 against the first pair", x.put(3, room), Due.against(0));
        due.is("20 full", x.pair(t, 18, false), FULL);
    }

    private static void allSentences() {
        WorldMake x = new WorldMake();
        int room = x.thing(1, 0);
        int t = x.thing(0, 0);
        int u = x.thing(0, 0);
        int any = x.relation(3);
        int groups = x.relation(5);
        int p = x.property(0, 4, 0);
        while (x.count(3) < 297) {
            x.give(room, p, 1);
        }
        due.is("26 deny", x.deny(any, t, u), 297);
        due.is("25 relate", x.relate(groups, t, u), 298);
        due.is("8 bar", x.bar(t, room), 299);
        due.is("7 full", x.put(t, room), FULL);
        due.is("8 full", x.bar(t, room), FULL);
        due.is("19 full", x.among(t, 1), FULL);
        due.is("20 full", x.pair(t, u, true), FULL);
        due.is("21 full", x.most(room, 0), FULL);
        due.is("25 full", x.relate(any, t, u), FULL);
        due.is("26 full", x.deny(groups, t, u), FULL);
        due.is("30 full", x.exit(room, 0, NONE), FULL);
        due.is("26 denied", x.deny(any, t, u), STATE);
        due.is("27 related", x.related(groups, u, t), 1);
        due.is("52 the last", x.sentence(299, 1), t);
        due.is("52 behind", x.sentence(300, 1), -1);
        due.is("49 make", x.make(), 2 + 3 * 4 + 8 + 4);
    }

    private static void settleOfMany() {
        WorldMake x = new WorldMake();
        for (int i = 0; i < 57; i++) {
            x.thing(1, 0);
        }
        for (int i = 57; i < 64; i++) {
            x.thing(4, 0);
        }
        for (int i = 57; i < 64; i++) {
            due.is("19 a ring", x.among(i, 1L << (i == 63 ? 57 : i + 1)), i - 57);
        }
        due.is("22 a ring of seven", x.settle(), NOWAY);
        WorldMake y = new WorldMake();
        for (int i = 0; i < 64; i++) {
            y.thing(i < 57 ? 1 : 4, 0);
        }
        for (int i = 57; i < 63; i++) {
            y.among(i, 1L << (i + 1));
        }
        due.is("19 the last", y.among(63, 1L << 57 | 1L << 56), 6);
        due.is("22 no ring", y.settle(), 7);
        due.is("13 the last", y.place(63, 0), 56);
        due.is("14 all of it", y.says(56, 2), 0);
        due.is("7 the last sentence", y.put(63, 0), Due.against(13));
    }

    private static void longWays() {
        WorldMake x = new WorldMake();
        for (int i = 0; i < 64; i++) {
            x.thing(1, 0);
        }
        x.relation(2);
        for (int i = 0; i < 63; i++) {
            x.relate(0, i, i + 1);
            x.exit(i, 6, i + 1);
        }
        due.is("28 63 steps", x.along(0, 0, 63), 63);
        due.is("29 the first", x.next(0, 0, 63), 1);
        due.is("28 not back", x.along(0, 63, 0), NONE);
        due.is("34 63 exits", x.route(0, 63, false), 63);
        due.is("34 back by assumed ones", x.route(63, 0, false), 63);
        due.is("35 back", x.first(63, 0, false), 7);
        due.is("25 a ring", x.relate(0, 63, 0), 126);
        due.is("28 a ring", x.along(0, 63, 62), 63);
    }

    /** What goes against the sentence 0 is not let. */
    private static void sentenceZero() {
        WorldMake x = new WorldMake();
        int room = x.thing(1, 0);
        int hall = x.thing(1, 0);
        int t = x.thing(0, 0);
        x.among(t, 1);
        due.is("7 the set", x.put(t, hall), Due.against(0));
        due.is("8 the set", x.bar(t, room), Due.against(0));
        due.is("19 the set", x.among(t, 2), Due.against(0));
        x.clear();
        int a = x.thing(1, 0);
        int b = x.thing(1, 0);
        int gate = x.thing(2, 0);
        x.door(gate, a, 0, b);
        due.is("31 the door", x.door(gate, a, 4, b), Due.against(0));
        due.is("34 not open", x.route(a, b, false), NONE);
        x.clear();
        x.thing(2, 0);
        x.thing(1, 0);
        x.thing(1, 0);
        x.door(0, 1, 3, 2);
        due.is("34 the door 0 is not open", x.route(1, 2, false), NONE);
        x.open(0, true);
        due.is("34 the door 0 is open", x.route(1, 2, false), 1);
    }

    private static void deepKinds() {
        WorldMake x = new WorldMake();
        int kind = 5;
        while (x.count(0) < 24) {
            kind = x.kind(kind);
        }
        int p = x.property(4, 6, 0);
        x.usual(4, p, 77);
        int t = x.thing(kind, 2);
        due.is("10 from far up", x.value(t, p), 77);
        due.is("14 a person", x.says(t, 0), 12);
        int q = x.property(kind, 8, kind);
        due.is("9 a person", x.give(t, q, x.thing(5, 0)), 0);
        due.is("9 the last property's", x.give(x.thing(22, 0), q, t), STATE);
    }
}
