/** The boundary cases of the promises 36 to 40. */
public final class ShelvesBoundsTest extends Bounds {
    public static void main(String[] args) {
        shelf();
        shelfFull();
        stand();
        standOfEachBase();
        stands();
        haulUnknown();
        haulIndex();
        haulOfNone();
        haulStore();
        haulOverItself();
        came();
        due.end();
    }

    private static void shelf() {
        Story s = with(THING);
        s.refused("36 no such kind", UNKNOWN, "shelf", 6, 1);
        s.refused("36 a kind below 0", UNKNOWN, "shelf", -1, 1);
        s.refused("36 n above 16", OUTSIDE, "shelf", 0, 17);
        s.refused("36 the greatest n", OUTSIDE, "shelf", 0, GREATEST);
        s.refused("36 n below 0", SIZE, "shelf", 0, -1);
        s.refused("36 the least n", SIZE, "shelf", 0, LEAST);
        s.refused("36 the kind ahead of n above 16", UNKNOWN, "shelf", 6, 17);
        s.refused("36 the kind ahead of n below 0", UNKNOWN, "shelf", 6, -1);
        s.due("36 no place", 0, "shelf", 5, 0);
        s.due("36 16 places", 1, "shelf", 0, 16);
        s.refused("38 no place", INDEX, "stands", 0, 0);
        s.refused("37 no place", INDEX, "stand", 0, 0, NONE);
        s.due("38 the last of 16", NONE, "stands", 1, 15);
        s.refused("38 none behind", INDEX, "stands", 1, 16);
    }

    private static void shelfFull() {
        Story s = with(THING);
        for (int n = 0; n < 9; n++) {
            s.does("shelf", 0, n);
        }
        s.due("36 the last one", 9, "shelf", 0, 9);
        s.refused("36 shelves are 0 .. 9", FULL, "shelf", 0, 1);
        s.refused("36 n above 16 ahead of full", OUTSIDE, "shelf", 0, 17);
        s.refused("36 full ahead of size", FULL, "shelf", 0, -1);
        s.refused("36 the kind ahead of full", UNKNOWN, "shelf", 6, 1);
        s.due("53 ten", 10, "count", 5);
        s.due("37 on the last one", 1, "stand", 9, 8, 0);
        s.refused("37 there is no 10", UNKNOWN, "stand", 10, 0, 0);
    }

    private static void stand() {
        Story s = with(THING, ROOM);
        s.does("shelf", ROOM, 2);
        s.refused("37 no such shelf", UNKNOWN, "stand", 1, 0, 1);
        s.refused("37 a shelf below 0", UNKNOWN, "stand", -1, 0, 1);
        s.refused("37 no such thing", UNKNOWN, "stand", 0, 0, 2);
        s.refused("37 a thing below 0", UNKNOWN, "stand", 0, 0, -1);
        s.refused("37 just above nothing", UNKNOWN, "stand", 0, 0, NONE + 1);
        s.refused("37 just below nothing", UNKNOWN, "stand", 0, 0, NONE - 1);
        s.refused("37 a place below 0", INDEX, "stand", 0, -1, 1);
        s.refused("37 a place behind the last", INDEX, "stand", 0, 2, 1);
        s.refused("37 the least place", INDEX, "stand", 0, LEAST, 1);
        s.refused("37 the greatest place", INDEX, "stand", 0, GREATEST, NONE);
        s.refused("37 the thing ahead of the place", UNKNOWN, "stand", 0, 2, 2);
        s.refused("37 the place ahead of store", INDEX, "stand", 0, 2, 0);
        s.refused("37 a row does not take that", STORE, "stand", 0, 0, 0);
        s.due("37 the first place", 1, "stand", 0, 0, 1);
        s.due("37 the last place", 1, "stand", 0, 1, 1);
        s.refused("37 what stands there stays", STORE, "stand", 0, 1, 0);
        s.due("38 what stands there stays", 1, "stands", 0, 1);
        s.due("37 nothing", 1, "stand", 0, 1, NONE);
        s.due("38 nothing", NONE, "stands", 0, 1);
        s.due("37 nothing again", 1, "stand", 0, 1, NONE);
        s.due("38 the first stays", 1, "stands", 0, 0);
    }

    private static void standOfEachBase() {
        for (int base = 0; base < 6; base++) {
            Story s = with(THING, ROOM, DOOR, BACKDROP, CARRIER, PERSON);
            s.does("shelf", s.does("kind", base), 6);
            int child = s.does("thing", s.does("kind", base), 0);
            for (int thing = 0; thing < 6; thing++) {
                boolean takes = base == THING || thing == base || base == CARRIER && thing == PERSON;
                String why = "37 base " + thing + " on a shelf of base " + base;
                if (takes) {
                    s.due(why, 1, "stand", 0, thing, thing);
                    s.due(why, thing, "stands", 0, thing);
                } else {
                    s.refused(why, STORE, "stand", 0, thing, thing);
                    s.due(why, NONE, "stands", 0, thing);
                }
            }
            s.due("37 by its base, not its kind", 1, "stand", 0, 0, child);
        }
    }

    private static void stands() {
        Story s = with(THING);
        s.does("shelf", 0, 3);
        s.refused("38 no such shelf", UNKNOWN, "stands", 1, 0);
        s.refused("38 a shelf below 0", UNKNOWN, "stands", -1, 0);
        s.refused("38 the shelf ahead of the place", UNKNOWN, "stands", 1, 3);
        s.refused("38 a place below 0", INDEX, "stands", 0, -1);
        s.refused("38 a place behind the last", INDEX, "stands", 0, 3);
        s.refused("38 the least place", INDEX, "stands", 0, LEAST);
        s.due("38 nothing at first", NONE, "stands", 0, 0);
        s.due("38 nothing at the last place", NONE, "stands", 0, 2);
        s.does("stand", 0, 2, 0);
        s.due("38 the thing 0", 0, "stands", 0, 2);
    }

    private static Story twoShelves() {
        Story s = with(THING, CARRIER, PERSON);
        s.does("shelf", THING, 4);
        s.does("shelf", CARRIER, 3);
        s.does("stand", 0, 0, 1);
        s.does("stand", 0, 1, 2);
        s.does("stand", 0, 2, 0);
        s.does("stand", 0, 3, 1);
        s.does("stand", 1, 2, 2);
        return s;
    }

    private static void haulUnknown() {
        Story s = twoShelves();
        s.does("haul", 0, 0, 0, 0, 2);
        s.refused("39 no such shelf", UNKNOWN, "haul", 2, 0, 1, 0, 1);
        s.refused("39 a shelf below 0", UNKNOWN, "haul", -1, 0, 1, 0, 1);
        s.refused("39 to no such shelf", UNKNOWN, "haul", 0, 0, 2, 0, 1);
        s.refused("39 to a shelf below 0", UNKNOWN, "haul", 0, 0, -1, 0, 1);
        s.refused("39 unknown ahead of index", UNKNOWN, "haul", 0, 9, 2, 9, -1);
        s.refused("39 unknown ahead of index, the other", UNKNOWN, "haul", 2, 9, 0, 9, -1);
        s.due("40 a refused one is none", 2, "came");
    }

    private static void haulIndex() {
        Story s = twoShelves();
        s.does("haul", 0, 0, 0, 0, 2);
        s.refused("39 i below 0", INDEX, "haul", 0, -1, 1, 0, 1);
        s.refused("39 j below 0", INDEX, "haul", 0, 0, 1, -1, 1);
        s.refused("39 n below 0", INDEX, "haul", 0, 0, 1, 0, -1);
        s.refused("39 n below 0, though i and n are within", INDEX, "haul", 0, 2, 1, 2, -1);
        s.refused("39 one place beyond the one", INDEX, "haul", 0, 3, 1, 0, 2);
        s.refused("39 one place beyond the other", INDEX, "haul", 0, 0, 1, 2, 2);
        s.refused("39 all of the longer one", INDEX, "haul", 0, 0, 1, 0, 4);
        s.refused("39 more than both have", INDEX, "haul", 0, 0, 0, 0, 5);
        s.refused("39 i behind the last", INDEX, "haul", 0, 4, 1, 0, 1);
        s.refused("39 j behind the last", INDEX, "haul", 0, 0, 1, 3, 1);
        s.refused("39 i and n wrap", INDEX, "haul", 0, GREATEST, 1, 0, GREATEST);
        s.refused("39 i and n wrap to 0", INDEX, "haul", 0, GREATEST, 1, 0, 1);
        s.refused("39 j and n wrap", INDEX, "haul", 0, 1, 1, GREATEST, 1);
        s.refused("39 the greatest n", INDEX, "haul", 0, 1, 1, 1, GREATEST);
        s.refused("39 the least n", INDEX, "haul", 0, 1, 1, 1, LEAST);
        s.refused("39 the least i", INDEX, "haul", 0, LEAST, 1, 0, LEAST);
        s.refused("39 index ahead of store", INDEX, "haul", 0, 2, 1, 1, 3);
        s.due("40 none of them counts", 2, "came");
        s.due("39 up to both ends", 1, "haul", 0, 3, 1, 2, 1);
        s.due("38 up to both ends", 1, "stands", 1, 2);
        s.due("39 all of both that fits", 2, "haul", 0, 0, 1, 0, 2);

        Story t = with(THING);
        t.does("shelf", THING, 16);
        t.does("shelf", THING, 16);
        t.does("stand", 0, 0, 0);
        t.does("stand", 0, 15, 0);
        t.due("39 all 16 places", 16, "haul", 0, 0, 1, 0, 16);
        t.due("38 the first of 16", 0, "stands", 1, 0);
        t.due("38 the last of 16", 0, "stands", 1, 15);
        t.refused("39 17 places", INDEX, "haul", 0, 0, 1, 0, 17);
    }

    private static void haulOfNone() {
        Story s = twoShelves();
        s.does("shelf", ROOM, 0);
        s.does("haul", 0, 0, 0, 0, 2);
        s.due("39 none at the ends", 0, "haul", 0, 4, 1, 3, 0);
        s.due("40 none", 0, "came");
        s.due("39 none of a shelf without places", 0, "haul", 2, 0, 2, 0, 0);
        s.refused("39 one of a shelf without places", INDEX, "haul", 2, 0, 0, 0, 1);
        s.refused("39 none from behind the end", INDEX, "haul", 0, 5, 1, 0, 0);
        s.refused("39 none to behind the end", INDEX, "haul", 0, 0, 1, 4, 0);
        s.refused("39 none from below 0", INDEX, "haul", 0, -1, 1, 0, 0);
        s.refused("39 none to below 0", INDEX, "haul", 0, 0, 1, -1, 0);
        s.due("38 nothing changed", 2, "stands", 1, 2);
    }

    private static void haulStore() {
        Story s = twoShelves();
        s.does("haul", 0, 0, 0, 0, 4);
        s.due("39 the third is not taken", STORE, "haul", 0, 0, 1, 0, 3);
        s.due("40 two came", 2, "came");
        s.due("54 store", 4, "fault");
        s.due("38 the first came", 1, "stands", 1, 0);
        s.due("38 the second came", 2, "stands", 1, 1);
        s.due("38 the third stays", 2, "stands", 1, 2);
        s.due("38 what is hauled stays where it was", 0, "stands", 0, 2);

        Story t = twoShelves();
        t.does("stand", 1, 0, 1);
        t.does("haul", 0, 0, 0, 0, 4);
        t.due("39 the first is not taken", STORE, "haul", 0, 2, 1, 0, 2);
        t.due("40 none came", 0, "came");
        t.due("38 it stays", 1, "stands", 1, 0);
        t.due("38 the one behind does not come", NONE, "stands", 1, 1);

        Story u = twoShelves();
        u.does("stand", 0, 2, NONE);
        u.due("39 nothing is taken by any shelf", 3, "haul", 0, 0, 1, 0, 3);
        u.due("38 nothing came in place of what stood there", NONE, "stands", 1, 2);
        u.due("40 three", 3, "came");
    }

    private static void haulOverItself() {
        for (int n = 0; n <= 4; n++) {
            for (int i = 0; i + n <= 4; i++) {
                for (int j = 0; j + n <= 4; j++) {
                    Story s = with(THING, THING, THING, THING);
                    s.does("shelf", 0, 4);
                    for (int k = 0; k < 4; k++) {
                        s.does("stand", 0, k, k);
                    }
                    s.due("39 the same shelf", n, "haul", 0, i, 0, j, n);
                    for (int k = 0; k < 4; k++) {
                        s.due("39 each as it was ahead", k >= j && k < j + n ? i + k - j : k, "stands", 0, k);
                    }
                }
            }
        }
    }

    private static void came() {
        Story s = twoShelves();
        s.due("40 0 ahead of any", 0, "came");
        s.refused("39 unknown", UNKNOWN, "haul", 2, 0, 1, 0, 1);
        s.refused("39 index", INDEX, "haul", 0, 0, 1, 0, 4);
        s.due("40 still none", 0, "came");
        s.does("haul", 0, 0, 1, 0, 2);
        s.due("40 two", 2, "came");
        s.refused("39 unknown", UNKNOWN, "haul", 2, 0, 1, 0, 1);
        s.refused("39 index", INDEX, "haul", 0, 0, 1, 0, 4);
        s.due("40 still two", 2, "came");
        s.due("39 store", STORE, "haul", 0, 1, 1, 0, 2);
        s.due("40 a haul that came to store counts", 1, "came");
        s.does("haul", 0, 0, 1, 0, 0);
        s.due("40 the latest had none", 0, "came");
        s.does("haul", 0, 0, 0, 0, 4);
        s.does("clear");
        s.due("55 as at first", 0, "came");
    }
}
