/** Promises 36 to 40. */
public final class ShelvesTest {
    private static final int UNKNOWN = -1, OUTSIDE = -2, FULL = -4, NONE = -9;
    private static final Due due = new Due();

    public static void main(String[] args) {
        shelves();
        stands();
        hauls();
        overlaps();
        due.end();
    }

    private static void shelves() {
        WorldMake x = new WorldMake();
        due.is("36 unknown", x.shelf(6, 17), UNKNOWN);
        due.is("36 outside", x.shelf(0, 17), OUTSIDE);
        due.is("36 size", x.shelf(0, -1), Due.SIZE);
        due.is("54 size", x.fault(), 5);
        due.is("36 no place", x.shelf(0, 0), 0);
        due.is("38 no place", x.stands(0, 0), Due.INDEX);
        for (int n = 1; n < 10; n++) {
            due.is("36 shelf", x.shelf(0, 16), n);
        }
        due.is("36 outside ahead of full", x.shelf(0, 17), OUTSIDE);
        due.is("36 full ahead of size", x.shelf(0, -1), FULL);
        due.is("53 shelves", x.count(5), 10);
        due.is("38 the last place", x.stands(9, 15), NONE);
    }

    private static void stands() {
        WorldMake x = new WorldMake();
        int sub = x.kind(4);
        int t = x.thing(0, 0);
        int box = x.thing(4, 0);
        int man = x.thing(5, 0);
        int chest = x.thing(sub, 0);
        int carriers = x.shelf(sub, 2);
        int persons = x.shelf(5, 2);
        int all = x.shelf(0, 2);
        due.is("37 no shelf", x.stand(3, 0, t), UNKNOWN);
        due.is("37 no thing", x.stand(all, 9, 4), UNKNOWN);
        due.is("37 no thing below", x.stand(all, 0, -1), UNKNOWN);
        due.is("37 index ahead of store", x.stand(carriers, 2, t), Due.INDEX);
        due.is("37 index below", x.stand(carriers, -1, box), Due.INDEX);
        due.is("54 index", x.fault(), 2);
        due.is("37 store", x.stand(carriers, 0, t), Due.STORE);
        due.is("54 store", x.fault(), 4);
        due.is("37 by its base", x.stand(carriers, 0, box), 1);
        due.is("37 a person is a carrier", x.stand(carriers, 1, man), 1);
        due.is("37 a carrier is no person", x.stand(persons, 0, chest), Due.STORE);
        due.is("37 a person", x.stand(persons, 0, man), 1);
        due.is("37 all are things", x.stand(all, 0, chest), 1);
        due.is("38 stands", x.stands(carriers, 1), man);
        due.is("37 nothing", x.stand(carriers, 1, NONE), 1);
        due.is("38 nothing", x.stands(carriers, 1), NONE);
        due.is("38 unknown", x.stands(3, 0), UNKNOWN);
        due.is("38 unknown below", x.stands(-1, 0), UNKNOWN);
        due.is("38 index", x.stands(all, 2), Due.INDEX);
        due.is("38 index below", x.stands(all, -1), Due.INDEX);
    }

    private static void hauls() {
        WorldMake x = new WorldMake();
        int man = x.thing(5, 0);
        int box = x.thing(4, 0);
        int t = x.thing(0, 0);
        int all = x.shelf(0, 5);
        int carriers = x.shelf(4, 4);
        x.stand(all, 0, man);
        x.stand(all, 2, box);
        x.stand(all, 3, t);
        x.stand(all, 4, man);
        due.is("39 no shelf", x.haul(2, 0, all, 0, -1), UNKNOWN);
        due.is("39 no other shelf", x.haul(all, 0, -1, 0, 0), UNKNOWN);
        due.is("40 none yet", x.came(), 0);
        due.is("39 haul", x.haul(all, 0, carriers, 1, 3), 3);
        due.is("40 three", x.came(), 3);
        due.is("38 came", x.stands(carriers, 1), man);
        due.is("38 nothing came", x.stands(carriers, 2), NONE);
        due.is("38 box came", x.stands(carriers, 3), box);
        due.is("39 i", x.haul(all, -1, carriers, 0, 1), Due.INDEX);
        due.is("39 j", x.haul(all, 0, carriers, -1, 1), Due.INDEX);
        due.is("39 n", x.haul(all, 0, carriers, 0, -1), Due.INDEX);
        due.is("39 i beyond", x.haul(all, 3, carriers, 0, 3), Due.INDEX);
        due.is("39 j beyond", x.haul(all, 0, carriers, 2, 3), Due.INDEX);
        due.is("39 no wrap", x.haul(all, 1, carriers, 1, Integer.MAX_VALUE), Due.INDEX);
        due.is("39 no wrap of i", x.haul(all, Integer.MAX_VALUE, carriers, 1, 1), Due.INDEX);
        due.is("54 index", x.fault(), 2);
        due.is("40 still three", x.came(), 3);
        due.is("39 store", x.haul(all, 2, carriers, 0, 3), Due.STORE);
        due.is("54 store", x.fault(), 4);
        due.is("40 one", x.came(), 1);
        due.is("38 came ahead of it", x.stands(carriers, 0), box);
        due.is("38 the rest stays", x.stands(carriers, 1), man);
        due.is("39 none, at the ends", x.haul(all, 5, carriers, 4, 0), 0);
        due.is("40 none", x.came(), 0);
        due.is("39 behind the end", x.haul(all, 6, carriers, 0, 0), Due.INDEX);
    }

    private static void overlaps() {
        WorldMake x = new WorldMake();
        int s = x.shelf(0, 6);
        for (int i = 0; i < 6; i++) {
            x.stand(s, i, x.thing(0, 0));
        }
        due.is("39 up", x.haul(s, 0, s, 1, 5), 5);
        int[] up = {0, 0, 1, 2, 3, 4};
        for (int i = 0; i < 6; i++) {
            due.is("38 up " + i, x.stands(s, i), up[i]);
        }
        due.is("39 down", x.haul(s, 2, s, 0, 4), 4);
        int[] down = {1, 2, 3, 4, 3, 4};
        for (int i = 0; i < 6; i++) {
            due.is("38 down " + i, x.stands(s, i), down[i]);
        }
    }
}
