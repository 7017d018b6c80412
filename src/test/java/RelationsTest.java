/** Promises 24 to 29. */
public final class RelationsTest {
    private static final int UNKNOWN = -1, OUTSIDE = -2, STATE = -3, FULL = -4, NONE = -9;
    private static final Due due = new Due();

    public static void main(String[] args) {
        forms();
        refusals();
        oneToOne();
        toMany();
        eachOther();
        groups();
        ways();
        full();
        due.end();
    }

    private static WorldMake withThings(int n) {
        WorldMake x = new WorldMake();
        for (int i = 0; i < n; i++) {
            x.thing(i % 6, 0);
        }
        return x;
    }

    private static void forms() {
        WorldMake x = new WorldMake();
        due.is("24 below", x.relation(-1), OUTSIDE);
        due.is("24 above", x.relation(6), OUTSIDE);
        for (int r = 0; r < 8; r++) {
            due.is("24 relation", x.relation(r % 6), r);
        }
        due.is("24 outside ahead of full", x.relation(6), OUTSIDE);
        due.is("24 full", x.relation(0), FULL);
        due.is("53 count", x.count(4), 8);
    }

    private static void refusals() {
        WorldMake x = withThings(3);
        int r = x.relation(3);
        due.is("25 no relation", x.relate(1, 0, 1), UNKNOWN);
        due.is("25 no a", x.relate(r, 3, 1), UNKNOWN);
        due.is("25 no b", x.relate(r, 0, -1), UNKNOWN);
        due.is("25 itself", x.relate(r, 1, 1), STATE);
        due.is("26 no relation", x.deny(-1, 0, 1), UNKNOWN);
        due.is("26 no a", x.deny(r, 3, 1), UNKNOWN);
        due.is("26 no b", x.deny(r, 0, 3), UNKNOWN);
        due.is("26 itself", x.deny(r, 1, 1), STATE);
        due.is("27 no relation", x.related(1, 0, 1), UNKNOWN);
        due.is("27 no a", x.related(r, 3, 1), UNKNOWN);
        due.is("27 no b", x.related(r, 0, 3), UNKNOWN);
        due.is("28 no relation", x.along(1, 0, 1), UNKNOWN);
        due.is("28 no a", x.along(r, -1, 1), UNKNOWN);
        due.is("28 no b", x.along(r, 0, 64), UNKNOWN);
        due.is("29 no relation", x.next(1, 0, 1), UNKNOWN);
        due.is("29 no a", x.next(r, 3, 1), UNKNOWN);
        due.is("29 no b", x.next(r, 0, 3), UNKNOWN);
        due.is("25 any", x.relate(r, 0, 1), 0);
        due.is("25 so already", x.relate(r, 0, 1), STATE);
        due.is("25 the other way", x.relate(r, 1, 0), 1);
        due.is("25 another one", x.relate(r, 0, 2), 2);
        due.is("26 against", x.deny(r, 0, 2), Due.against(2));
        due.is("26 deny", x.deny(r, 2, 0), 3);
        due.is("26 denied already", x.deny(r, 2, 0), STATE);
        due.is("25 denied", x.relate(r, 2, 0), Due.against(3));
        due.is("27 has", x.related(r, 0, 2), 1);
        due.is("27 has not", x.related(r, 2, 0), 0);
        due.is("27 itself", x.related(r, 0, 0), 0);
        due.is("52 relate", x.sentence(2, 0), 6);
        due.is("52 relation", x.sentence(2, 1), r);
        due.is("52 a", x.sentence(2, 2), 0);
        due.is("52 deny", x.sentence(3, 0), 7);
    }

    private static void oneToOne() {
        WorldMake x = withThings(4);
        int other = x.relation(0);
        int r = x.relation(0);
        due.is("25 another relation", x.relate(other, 0, 2), 0);
        due.is("25 one", x.relate(r, 0, 1), 1);
        due.is("25 two", x.relate(r, 2, 3), 2);
        due.is("25 a's ahead of b's", x.relate(r, 2, 1), Due.against(2));
        due.is("25 b's", x.relate(r, 1, 3), Due.against(2));
        due.is("25 a's", x.relate(r, 0, 2), Due.against(1));
        due.is("26 deny", x.deny(r, 0, 3), 3);
        due.is("25 the deny first", x.relate(r, 0, 3), Due.against(3));
        due.is("25 the other way", x.relate(r, 1, 0), 4);
    }

    private static void toMany() {
        WorldMake x = withThings(4);
        int many = x.relation(1);
        int one = x.relation(2);
        due.is("25 one to many", x.relate(many, 0, 1), 0);
        due.is("25 more", x.relate(many, 0, 2), 1);
        due.is("25 one a at most", x.relate(many, 3, 2), Due.against(1));
        due.is("25 many to one", x.relate(one, 1, 0), 2);
        due.is("25 more", x.relate(one, 2, 0), 3);
        due.is("25 one b at most", x.relate(one, 2, 3), Due.against(3));
        due.is("27 no other way", x.related(one, 0, 1), 0);
    }

    private static void eachOther() {
        WorldMake x = withThings(4);
        int r = x.relation(4);
        due.is("26 deny", x.deny(r, 0, 1), 0);
        due.is("26 the other way round", x.deny(r, 1, 0), 1);
        due.is("25 the first", x.relate(r, 1, 0), Due.against(0));
        due.is("25 the first, this way", x.relate(r, 0, 1), Due.against(0));
        due.is("25 relate", x.relate(r, 2, 1), 2);
        due.is("25 so already", x.relate(r, 1, 2), STATE);
        due.is("27 either way", x.related(r, 1, 2), 1);
        due.is("27 itself", x.related(r, 1, 1), 0);
        due.is("26 against, either way", x.deny(r, 1, 2), Due.against(2));
        due.is("26 against", x.deny(r, 2, 1), Due.against(2));
        due.is("25 more", x.relate(r, 1, 3), 3);
        due.is("28 two steps", x.along(r, 3, 2), 2);
        due.is("29 next", x.next(r, 3, 2), 1);
    }

    private static void groups() {
        WorldMake x = withThings(8);
        int r = x.relation(5);
        due.is("27 itself", x.related(r, 3, 3), 1);
        due.is("26 deny", x.deny(r, 7, 6), 0);
        due.is("26 deny", x.deny(r, 5, 0), 1);
        due.is("25 0 1", x.relate(r, 0, 1), 2);
        due.is("25 2 3", x.relate(r, 2, 3), 3);
        due.is("25 1 2", x.relate(r, 1, 2), 4);
        due.is("25 together already", x.relate(r, 3, 0), STATE);
        due.is("27 all together", x.related(r, 3, 0), 1);
        due.is("26 came together", x.deny(r, 3, 0), Due.against(4));
        due.is("26 earlier", x.deny(r, 3, 2), Due.against(3));
        due.is("26 earlier still", x.deny(r, 0, 1), Due.against(2));
        due.is("25 one of a's", x.relate(r, 3, 5), Due.against(1));
        due.is("25 5 6", x.relate(r, 5, 6), 5);
        due.is("25 3 7", x.relate(r, 3, 7), 6);
        due.is("25 the first of two", x.relate(r, 2, 6), Due.against(0));
        due.is("26 a deny more", x.deny(r, 0, 6), 7);
        due.is("28 one step", x.along(r, 7, 0), 1);
        due.is("28 itself", x.along(r, 7, 7), 0);
        due.is("28 apart", x.along(r, 7, 5), NONE);
        due.is("29 next", x.next(r, 7, 0), 0);
        due.is("29 itself", x.next(r, 7, 7), NONE);
        int y = x.thing(0, 0);
        due.is("27 a later thing", x.related(r, y, y), 1);
        due.is("27 a later thing apart", x.related(r, y, 0), 0);
    }

    private static void ways() {
        WorldMake x = withThings(8);
        int r = x.relation(3);
        x.relate(r, 0, 5);
        x.relate(r, 0, 3);
        x.relate(r, 5, 7);
        x.relate(r, 3, 6);
        x.relate(r, 6, 1);
        x.relate(r, 7, 1);
        x.relate(r, 1, 0);
        due.is("28 shortest", x.along(r, 0, 1), 3);
        due.is("29 the least", x.next(r, 0, 1), 3);
        due.is("29 the only one", x.next(r, 0, 7), 5);
        due.is("28 round", x.along(r, 1, 7), 3);
        due.is("29 round", x.next(r, 1, 7), 0);
        due.is("28 itself", x.along(r, 0, 0), 0);
        due.is("29 itself", x.next(r, 0, 0), NONE);
        due.is("28 none", x.along(r, 0, 4), NONE);
        due.is("29 none", x.next(r, 0, 4), NONE);
        x.relate(r, 0, 1);
        due.is("28 at once", x.along(r, 0, 1), 1);
        due.is("29 at once", x.next(r, 0, 1), 1);
    }

    private static void full() {
        WorldMake x = withThings(4);
        int r = x.relation(0);
        int p = x.property(0, 0, 0);
        x.relate(r, 0, 1);
        x.deny(r, 2, 3);
        while (x.count(3) < 300) {
            x.give(0, p, 1);
        }
        due.is("25 state ahead of full", x.relate(r, 0, 1), STATE);
        due.is("25 full ahead of against", x.relate(r, 2, 3), FULL);
        due.is("26 state ahead of full", x.deny(r, 2, 3), STATE);
        due.is("26 full ahead of against", x.deny(r, 0, 1), FULL);
    }
}
