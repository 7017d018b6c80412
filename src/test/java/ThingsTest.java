/** Promises 6 to 8 and 13 to 18. */
public final class ThingsTest {
    private static final int UNKNOWN = -1, OUTSIDE = -2, STATE = -3, FULL = -4, NONE = -9;
    private static final Due due = new Due();

    public static void main(String[] args) {
        things();
        putRefusals();
        putAgainst();
        backdrops();
        bars();
        says();
        deepLoads();
        follows();
        marks();
        due.end();
    }

    private static void things() {
        WorldMake x = new WorldMake();
        due.is("6 kind", x.thing(6, 0), UNKNOWN);
        due.is("6 unknown ahead", x.thing(-1, -1), UNKNOWN);
        due.is("6 size below", x.thing(0, -1), OUTSIDE);
        due.is("6 size above", x.thing(0, 1001), OUTSIDE);
        due.is("6 greatest size", x.thing(0, 1000), 0);
        for (int n = 1; n < 64; n++) {
            due.is("6 thing", x.thing(n % 6, 0), n);
        }
        due.is("6 outside ahead of full", x.thing(0, 1001), OUTSIDE);
        due.is("6 full", x.thing(0, 0), FULL);
        due.is("6 count", x.count(2), 64);
    }

    private static void putRefusals() {
        WorldMake x = new WorldMake();
        int room = x.thing(1, 0);
        int door = x.thing(2, 0);
        int drop = x.thing(3, 0);
        int box = x.thing(4, 0);
        int man = x.thing(5, 0);
        int t = x.thing(0, 0);
        due.is("7 no thing", x.put(6, room), UNKNOWN);
        due.is("7 no holder thing", x.put(t, -9), UNKNOWN);
        due.is("7 a room", x.put(room, box), STATE);
        due.is("7 a door", x.put(door, room), STATE);
        due.is("7 into a thing", x.put(box, t), STATE);
        due.is("7 into a door", x.put(t, door), STATE);
        due.is("7 into a backdrop", x.put(t, drop), STATE);
        due.is("7 a backdrop into a carrier", x.put(drop, box), STATE);
        due.is("7 a backdrop into a person", x.put(drop, man), STATE);
        due.is("7 itself", x.put(box, box), STATE);
        due.is("13 nowhere", x.place(t, 0), NONE);
        due.is("7 put", x.put(t, box), 0);
        due.is("7 there already", x.put(t, box), STATE);
        due.is("7 elsewhere", x.put(t, room), Due.against(0));
        due.is("7 box into man", x.put(box, man), 1);
        due.is("7 man into box", x.put(man, box), STATE);
        due.is("13 place", x.place(t, 0), box);
        due.is("13 second", x.place(t, 1), NONE);
        due.is("13 below", x.place(t, -1), NONE);
        due.is("13 unknown", x.place(6, 0), UNKNOWN);
        due.is("52 sort", x.sentence(1, 0), 0);
        due.is("52 thing", x.sentence(1, 1), box);
        due.is("52 holder", x.sentence(1, 2), man);
        int p = x.property(0, 0, 0);
        while (x.count(3) < 300) {
            x.give(t, p, 1);
        }
        due.is("7 full ahead of against", x.put(t, room), FULL);
        due.is("7 state ahead of full", x.put(t, box), STATE);
        due.is("7 full", x.put(man, room), FULL);
        due.is("13 unchanged", x.place(man, 0), NONE);
    }

    private static void putAgainst() {
        WorldMake x = new WorldMake();
        int room = x.thing(1, 0);
        int hall = x.thing(1, 0);
        int yard = x.thing(1, 0);
        int t = x.thing(0, 0);
        int u = x.thing(0, 0);
        int w = x.thing(0, 0);
        due.is("19 among", x.among(t, 7), 0);
        due.is("8 bar", x.bar(t, room), 1);
        due.is("8 bar again", x.bar(t, room), 2);
        due.is("21 most", x.most(hall, 1), 3);
        due.is("7 put", x.put(u, hall), 4);
        due.is("20 pair", x.pair(u, t, false), 5);
        due.is("7 the first bar ahead of the set", x.put(t, room), Due.against(1));
        due.is("7 the most ahead of the pair", x.put(t, hall), Due.against(3));
        due.is("19 again", x.among(t, 4), 6);
        due.is("7 the set ahead of the most", x.put(t, hall), Due.against(6));
        due.is("20 apart", x.pair(w, u, false), 7);
        due.is("20 together", x.pair(t, w, true), 8);
        due.is("7 put", x.put(t, yard), 9);
        due.is("7 the pair", x.put(w, room), Due.against(8));
        due.is("7 the first put", x.put(t, hall), Due.against(9));
        due.is("7 together", x.put(w, yard), 10);
    }

    private static void backdrops() {
        WorldMake x = new WorldMake();
        int[] rooms = new int[7];
        for (int i = 0; i < 7; i++) {
            rooms[i] = x.thing(1, 0);
        }
        int sky = x.thing(3, 4);
        due.is("21 most", x.most(rooms[0], 0), 0);
        for (int i = 0; i < 6; i++) {
            due.is("7 backdrop", x.put(sky, rooms[i]), i + 1);
            due.is("13 in several", x.place(sky, i), rooms[i]);
        }
        due.is("7 there already", x.put(sky, rooms[5]), STATE);
        due.is("7 six at most", x.put(sky, rooms[6]), FULL);
        due.is("13 no seventh", x.place(sky, 6), NONE);
        due.is("14 no load", x.says(rooms[0], 2), 0);
        due.is("8 where it lies", x.bar(sky, rooms[3]), Due.against(4));
        due.is("8 elsewhere", x.bar(sky, rooms[6]), 7);
        int sea = x.thing(3, 0);
        due.is("8 bar", x.bar(sea, rooms[2]), 8);
        due.is("7 barred", x.put(sea, rooms[2]), Due.against(8));
        due.is("21 backdrops do not count", x.most(rooms[1], 0), 9);
    }

    private static void bars() {
        WorldMake x = new WorldMake();
        int room = x.thing(1, 0);
        int door = x.thing(2, 0);
        int box = x.thing(4, 0);
        int t = x.thing(0, 0);
        int drop = x.thing(3, 0);
        due.is("8 no thing", x.bar(5, room), UNKNOWN);
        due.is("8 no other", x.bar(t, 5), UNKNOWN);
        due.is("8 room", x.bar(room, box), STATE);
        due.is("8 door", x.bar(door, room), STATE);
        due.is("8 no holder", x.bar(t, door), STATE);
        due.is("8 backdrop in a carrier", x.bar(drop, box), 0);
        due.is("8 itself", x.bar(box, box), 1);
        due.is("7 put", x.put(t, box), 2);
        due.is("8 against the put", x.bar(t, box), Due.against(2));
        due.is("8 elsewhere", x.bar(t, room), 3);
        due.is("52 sort", x.sentence(3, 0), 1);
        int u = x.thing(0, 0);
        due.is("19 among", x.among(u, 5), 4);
        due.is("19 among again", x.among(u, 5), 5);
        due.is("8 leaves the set", x.bar(u, room), 6);
        due.is("23 left", x.set(u), 4);
        due.is("8 the latest among", x.bar(u, box), Due.against(5));
        due.is("8 not in the set", x.bar(u, room), 7);
        int p = x.property(0, 0, 0);
        while (x.count(3) < 300) {
            x.give(t, p, 1);
        }
        due.is("8 full ahead of against", x.bar(u, box), FULL);
        due.is("8 state ahead of full", x.bar(u, door), STATE);
    }

    private static void says() {
        WorldMake x = new WorldMake();
        int t = x.thing(0, 7);
        int room = x.thing(1, 7);
        int door = x.thing(2, 7);
        int drop = x.thing(3, 7);
        int box = x.thing(4, 7);
        int man = x.thing(5, 7);
        due.is("14 unknown", x.says(6, 9), UNKNOWN);
        due.is("14 outside", x.says(t, 5), OUTSIDE);
        due.is("14 outside below", x.says(t, -1), OUTSIDE);
        int[][] wanted = {
            {7, 22, Due.CAST, Due.CAST, Due.CAST},
            {0, 1022, 0, Due.CAST, Due.CAST},
            {14, 122, Due.CAST, 70, Due.CAST},
            {0, -22, Due.CAST, Due.CAST, Due.CAST},
            {7, 22, 0, 7, Due.CAST},
            {17, 44, 0, 7, Due.QUOTIENT}};
        for (int i = 0; i < 6; i++) {
            for (int what = 0; what < 5; what++) {
                due.is("14 says " + i + " " + what, x.says(i, what), wanted[i][what]);
            }
        }
        due.is("54 quotient", x.fault(), 6);
        x.put(t, box);
        x.put(box, man);
        x.put(man, room);
        x.put(drop, room);
        due.is("14 bulk of the box", x.says(box, 0), 14);
        due.is("14 bulk of the man", x.says(man, 0), 31);
        due.is("14 load of the room", x.says(room, 2), 31);
        due.is("14 bulk of the room", x.says(room, 0), 31);
        due.is("14 stride", x.says(man, 4), 71);
        x.open(box, true);
        x.open(door, true);
        x.open(man, true);
        due.is("14 lid of a box", x.says(box, 3), 1007);
        due.is("14 lid of a door", x.says(door, 3), 71);
        due.is("14 lid of a man", x.says(man, 3), 1007);
        int sub = x.kind(x.kind(2));
        due.is("14 by the base", x.says(x.thing(sub, 1), 1), 104);
    }

    private static void deepLoads() {
        WorldMake x = new WorldMake();
        for (int i = 0; i < 64; i++) {
            x.thing(5, 1000);
        }
        for (int i = 0; i < 63; i++) {
            due.is("7 chain", x.put(i, i + 1), i);
        }
        due.is("7 a ring", x.put(63, 0), STATE);
        due.is("14 deep", x.says(63, 0), 64 * 1010);
        due.is("14 deep load", x.says(63, 2), 63 * 1010);
        due.is("14 stride 0", x.says(63, 4), 0);
    }

    private static void follows() {
        WorldMake x = new WorldMake();
        int room = x.thing(1, 3);
        int t = x.thing(0, 2);
        int man = x.thing(5, 2);
        int p = x.property(0, 8, 0);
        int q = x.property(1, 8, 0);
        int n = x.property(0, 4, 0);
        due.is("15 no thing", x.follow(3, p, 9), UNKNOWN);
        due.is("15 no property", x.follow(t, 3, 9), UNKNOWN);
        due.is("15 outside ahead of state", x.follow(t, q, 5), OUTSIDE);
        due.is("15 state", x.follow(t, q, 0), STATE);
        due.is("15 cast", x.follow(t, n, 0), Due.CAST);
        due.is("54 cast", x.fault(), 3);
        due.is("15 null", x.follow(t, p, 0), Due.NULL);
        due.is("54 null", x.fault(), 1);
        x.usual(0, p, room);
        due.is("15 by the usual", x.follow(t, p, 1), 1010);
        x.give(t, p, man);
        due.is("15 given", x.follow(t, p, 0), 12);
        due.is("15 as says", x.follow(t, p, 4), Due.QUOTIENT);
        x.give(man, p, t);
        due.is("15 has none", x.follow(man, p, 2), Due.CAST);
    }

    private static void marks() {
        WorldMake x = new WorldMake();
        int t = x.thing(0, 1);
        int door = x.thing(2, 2);
        int box = x.thing(4, 3);
        int man = x.thing(5, 4);
        int room = x.thing(1, 5);
        due.is("16 unknown", x.mark(5, 0), UNKNOWN);
        due.is("16 outside", x.mark(t, 2), OUTSIDE);
        due.is("16 outside below", x.mark(t, -1), OUTSIDE);
        due.is("16 thing", x.mark(t, 0), 1);
        due.is("16 none of its own", x.mark(t, 1), Due.CAST);
        due.is("16 room", x.mark(room, 1), Due.CAST);
        due.is("16 door", x.mark(door, 1), 2);
        due.is("16 man", x.mark(man, 1), 4);
        due.is("17 unknown", x.remark(5, 2, -1), UNKNOWN);
        due.is("17 how", x.remark(t, 2, 0), OUTSIDE);
        due.is("17 v below", x.remark(t, 0, -1), OUTSIDE);
        due.is("17 v above, ahead of cast", x.remark(t, 1, 1001), OUTSIDE);
        due.is("17 cast", x.remark(t, 1, 1000), Due.CAST);
        due.is("17 as a thing", x.remark(box, 0, 1000), 3);
        due.is("17 its own", x.remark(box, 1, 0), 3);
        due.is("16 as a thing", x.mark(box, 0), 1000);
        due.is("16 its own", x.mark(box, 1), 0);
        due.is("17 what it was", x.remark(box, 0, 5), 1000);
        due.is("14 lid by its own mark", x.says(box, 3), 0);
        due.is("14 bulk by its size", x.says(box, 0), 3);
        due.is("18 unknown", x.open(5, true), UNKNOWN);
        due.is("18 thing", x.open(t, true), Due.CAST);
        due.is("18 room", x.open(room, true), Due.CAST);
        due.is("54 cast", x.fault(), 3);
        due.is("18 at first not", x.open(door, true), 0);
        due.is("18 it was", x.open(door, false), 1);
        due.is("18 it was not", x.open(door, false), 0);
        due.is("18 man", x.open(man, true), 0);
    }
}
