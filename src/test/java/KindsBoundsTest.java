/** The boundary cases of the promises 1 to 5, and of the values that come into cells. */
public final class KindsBoundsTest extends Bounds {
    public static void main(String[] args) {
        newObject();
        kind();
        kindFull();
        is();
        bases();
        property();
        propertyFull();
        usual();
        usualOfThings();
        nearestUsual();
        lanesOfWholeNumbers();
        lanesOfFloats();
        laneOfThings();
        due.end();
    }

    private static void newObject() {
        Story s = story();
        s.due("1 six kinds", 6, "count", 0);
        for (int what = 1; what < 10; what++) {
            s.due("1 nothing else", 0, "count", what);
        }
        int[] parents = {NONE, 0, 0, 0, 0, 4};
        for (int kind = 0; kind < 6; kind++) {
            for (int other = 0; other < 6; other++) {
                boolean is = kind == other || other == 0 || other == parents[kind];
                s.due("1 the parents", is ? 1 : 0, "is", kind, other);
            }
        }
        s.due("1 no kind 6", UNKNOWN, "is", 6, 0);
        s.due("1 no property", UNKNOWN, "peek", 0, 0, 0);
        s.due("1 no thing", UNKNOWN, "place", 0, 0);
        s.due("1 no set", 0, "set", 0);
        s.due("1 no room", UNKNOWN, "sort", 0, 0);
        s.due("1 no shelf", UNKNOWN, "stands", 0, 0);
        s.due("1 no table", UNKNOWN, "total", 0, 0);
        s.due("1 no relation", UNKNOWN, "related", 0, 0, 0);
        s.due("1 no sentence", UNKNOWN, "sentence", 0, 0);
        s.due("1 no word", NONE, "word", 0);
        s.due("1 nothing unsettled", 0, "settle");
        s.due("1 no fault", 0, "fault");
        s.due("1 none came", 0, "came");
    }

    private static void kind() {
        Story s = story();
        s.refused("2 no such parent", UNKNOWN, "kind", 6);
        s.refused("2 below 0", UNKNOWN, "kind", -1);
        s.refused("2 nothing is no parent", UNKNOWN, "kind", NONE);
        s.refused("2 the least number", UNKNOWN, "kind", LEAST);
        s.refused("2 the greatest number", UNKNOWN, "kind", GREATEST);
        s.due("2 under the first", 6, "kind", 0);
        s.due("2 under the newest", 7, "kind", 6);
        s.refused("2 not under itself", UNKNOWN, "kind", 8);
        s.due("2 under the last of the six", 8, "kind", 5);
    }

    private static void kindFull() {
        Story s = story();
        for (int kind = 6; kind < 23; kind++) {
            s.does("kind", kind - 1);
        }
        s.due("2 the last one", 23, "kind", 22);
        s.refused("2 kinds are 0 .. 23", FULL, "kind", 0);
        s.refused("2 full under the last one", FULL, "kind", 23);
        s.refused("2 unknown ahead of full", UNKNOWN, "kind", 24);
        s.refused("2 unknown ahead of full, below", UNKNOWN, "kind", -1);
        s.due("2 24 of them", 24, "count", 0);
    }

    private static void is() {
        Story s = story();
        for (int kind = 6; kind < 24; kind++) {
            s.does("kind", kind == 6 ? DOOR : kind - 1);
        }
        s.due("3 the last is itself", 1, "is", 23, 23);
        s.due("3 and all that its parent is", 1, "is", 23, 6);
        s.due("3 of the six, too", 1, "is", 23, DOOR);
        s.due("3 and a thing", 1, "is", 23, THING);
        s.due("3 not another of the six", 0, "is", 23, ROOM);
        s.due("3 the parent is not the child", 0, "is", 22, 23);
        s.refused("3 no such kind", UNKNOWN, "is", 24, 0);
        s.refused("3 no such other", UNKNOWN, "is", 0, 24);
        s.refused("3 the same, but none", UNKNOWN, "is", 24, 24);
        s.refused("3 below 0", UNKNOWN, "is", -1, 0);
        s.refused("3 the other below 0", UNKNOWN, "is", 0, -1);
        s.refused("3 the least number", UNKNOWN, "is", LEAST, 0);
        s.refused("3 the greatest number", UNKNOWN, "is", 0, GREATEST);
    }

    /** A BASE is the first of the six by PARENTS, itself first: of a kind under PERSON that, not CARRIER. */
    private static void bases() {
        Story s = story();
        int[] worths = {1, 1001, 101, -1, 1, 2};
        for (int base = 0; base < 6; base++) {
            int child = s.does("kind", base);
            int grandchild = s.does("kind", child);
            s.due("the base of itself", worths[base], "says", s.does("thing", base, 0), 1);
            s.due("the base of a child", worths[base], "says", s.does("thing", child, 0), 1);
            s.due("the base of a grandchild", worths[base], "says", s.does("thing", grandchild, 0), 1);
        }
    }

    private static void property() {
        Story s = story();
        s.refused("4 no such kind", UNKNOWN, "property", 6, 0, 0);
        s.refused("4 a kind below 0", UNKNOWN, "property", -1, 0, 0);
        s.refused("4 no such of", UNKNOWN, "property", 0, 8, 6);
        s.refused("4 of below 0", UNKNOWN, "property", 0, 8, -1);
        s.refused("4 of nothing", UNKNOWN, "property", 0, 8, NONE);
        s.refused("4 a lane below 0", OUTSIDE, "property", 0, -1, 0);
        s.refused("4 a lane above 8", OUTSIDE, "property", 0, 9, 0);
        s.refused("4 the least lane", OUTSIDE, "property", 0, LEAST, 0);
        s.refused("4 the greatest lane", OUTSIDE, "property", 0, GREATEST, 0);
        s.refused("4 the kind ahead of the lane", UNKNOWN, "property", 6, 9, 0);
        s.refused("4 with the lane 9 of is not looked at", OUTSIDE, "property", 0, 9, 6);
        s.due("4 the last of the six, the lane 0", 0, "property", 5, 0, 0);
        s.due("4 with the lane 7 of is not looked at", 1, "property", 0, 7, 6);
        s.due("4 with the lane 0 of is not looked at", 2, "property", 0, 0, LEAST);
        s.due("4 the lane 8, the last of the six", 3, "property", 0, 8, 5);
        s.due("4 the lane 8, the first of the six", 4, "property", 0, 8, 0);
        s.refused("4 a property is for its kind alone", UNKNOWN, "peek", 5, 0, 0);
    }

    private static void propertyFull() {
        Story s = story();
        for (int property = 0; property < 11; property++) {
            s.does("property", 0, property % 9, 0);
        }
        s.due("4 the last one", 11, "property", 0, 8, 0);
        s.refused("4 properties are 0 .. 11", FULL, "property", 0, 0, 0);
        s.refused("4 the lane ahead of full", OUTSIDE, "property", 0, 9, 0);
        s.refused("4 the kind ahead of full", UNKNOWN, "property", 6, 0, 0);
        s.refused("4 of ahead of full", UNKNOWN, "property", 0, 8, 6);
        s.due("4 twelve of them", 12, "count", 1);
    }

    private static void usual() {
        Story s = with(THING);
        int p = s.does("property", CARRIER, 4, 0);
        s.refused("5 no such kind", UNKNOWN, "usual", 6, p, 1);
        s.refused("5 a kind below 0", UNKNOWN, "usual", -1, p, 1);
        s.refused("5 no such property", UNKNOWN, "usual", CARRIER, 1, 1);
        s.refused("5 a property below 0", UNKNOWN, "usual", CARRIER, -1, 1);
        s.refused("5 the kind is above the property's", STATE, "usual", THING, p, 1);
        s.refused("5 the kind is beside the property's", STATE, "usual", ROOM, p, 1);
        s.refused("5 unknown ahead of state", UNKNOWN, "usual", THING, 1, 1);
        s.due("5 the property's kind", 1, "usual", CARRIER, p, 1);
        s.due("5 a kind under it", 1, "usual", PERSON, p, Long.MIN_VALUE);
        s.due("5 a lane of numbers takes any", 1, "usual", CARRIER, p, NONE);
        s.due("5 it becomes that", NONE, "value", s.does("thing", CARRIER, 0), p);
        s.due("5 it is no sentence", 0, "count", 3);
    }

    private static void usualOfThings() {
        Story s = with(ROOM, CARRIER, PERSON);
        int p = s.does("property", CARRIER, 8, CARRIER);
        s.refused("5 v is no thing", UNKNOWN, "usual", CARRIER, p, 3);
        s.refused("5 v is below 0", UNKNOWN, "usual", CARRIER, p, -1);
        s.refused("5 v is just above nothing", UNKNOWN, "usual", CARRIER, p, NONE + 1);
        s.refused("5 v is just below nothing", UNKNOWN, "usual", CARRIER, p, NONE - 1);
        s.refused("5 v is a thing by its lowest bits alone", UNKNOWN, "usual", CARRIER, p, 1L << 32);
        s.refused("5 v is nothing by its lowest bits alone", UNKNOWN, "usual", CARRIER, p, 0xffff_fff7L);
        s.refused("5 the least v", UNKNOWN, "usual", CARRIER, p, Long.MIN_VALUE);
        s.refused("5 v is no carrier", STORE, "usual", CARRIER, p, 0);
        s.refused("5 v unknown ahead of state", UNKNOWN, "usual", THING, p, 3);
        s.refused("5 state ahead of store", STATE, "usual", THING, p, 0);
        s.due("5 a carrier", 1, "usual", CARRIER, p, 1);
        s.due("10 the usual", 1, "value", 2, p);
        s.due("5 a person is a carrier", 1, "usual", PERSON, p, 2);
        s.due("10 the nearer usual", 2, "value", 2, p);
        s.due("5 nothing", 1, "usual", PERSON, p, NONE);
        s.due("10 the usual is nothing", NONE, "value", 2, p);
    }

    /** What a THING has: what it was GIVEN; else the nearest USUAL; else 0, or nothing. */
    private static void nearestUsual() {
        Story s = story();
        int child = s.does("kind", CARRIER);
        int grandchild = s.does("kind", child);
        int sister = s.does("kind", child);
        int p = s.does("property", THING, 5, 0);
        int q = s.does("property", THING, 8, THING);
        int t = s.does("thing", grandchild, 0);
        s.due("10 none told", 0, "value", t, p);
        s.due("10 none told, things", NONE, "value", t, q);
        s.does("usual", THING, p, 1);
        s.due("10 that of the farthest", 1, "value", t, p);
        s.does("usual", sister, p, 9);
        s.does("usual", PERSON, p, 9);
        s.due("10 not that of a sister", 1, "value", t, p);
        s.does("usual", CARRIER, p, 2);
        s.due("10 that of the base", 2, "value", t, p);
        s.does("usual", child, p, 3);
        s.due("10 that of the parent", 3, "value", t, p);
        s.does("usual", THING, p, 4);
        s.due("10 a farther one told later", 3, "value", t, p);
        s.does("usual", grandchild, p, 0);
        s.due("10 its own, which is 0", 0, "value", t, p);
        s.does("give", t, p, 7);
        s.does("usual", grandchild, p, 8);
        s.due("10 what it was given", 7, "value", t, p);
        s.does("usual", THING, q, t);
        s.does("give", t, q, NONE);
        s.due("10 it was given nothing", NONE, "value", t, q);
    }

    private static void lanesOfWholeNumbers() {
        tells(0, 0, 0);
        tells(0, 1, 1);
        tells(0, -1, 1);
        tells(0, 2, 1);
        tells(0, 256, 1);
        tells(0, 1L << 32, 1);
        tells(0, Long.MIN_VALUE, 1);
        tells(1, 127, 127);
        tells(1, 128, -128);
        tells(1, -128, -128);
        tells(1, -129, 127);
        tells(1, 255, -1);
        tells(1, 256, 0);
        tells(1, Long.MAX_VALUE, -1);
        tells(2, 32767, 32767);
        tells(2, 32768, -32768);
        tells(2, -32768, -32768);
        tells(2, -32769, 32767);
        tells(2, 65536, 0);
        tells(3, 65535, 65535);
        tells(3, 65536, 0);
        tells(3, -1, 65535);
        tells(3, 32768, 32768);
        tells(3, Long.MIN_VALUE, 0);
        tells(4, GREATEST, GREATEST);
        tells(4, GREATEST + 1L, LEAST);
        tells(4, LEAST, LEAST);
        tells(4, LEAST - 1L, GREATEST);
        tells(4, 1L << 32, 0);
        tells(5, Long.MAX_VALUE, Long.MAX_VALUE);
        tells(5, Long.MIN_VALUE, Long.MIN_VALUE);
        tells(5, NONE, NONE);
    }

    /** The nearest float, double; of two that are equally near the even one; cut to a long again. */
    private static void lanesOfFloats() {
        tells(6, 16777216, 16777216);
        tells(6, 16777217, 16777216);
        tells(6, 16777218, 16777218);
        tells(6, 16777219, 16777220);
        tells(6, -16777219, -16777220);
        tells(6, GREATEST, 2147483648L);
        tells(6, Long.MAX_VALUE, Long.MAX_VALUE);
        tells(6, Long.MIN_VALUE, Long.MIN_VALUE);
        tells(6, Long.MAX_VALUE - (1L << 40), Long.MAX_VALUE - (1L << 40) + 1);
        tells(6, 0, 0);
        tells(6, -1, -1);
        tells(7, GREATEST, GREATEST);
        tells(7, 9007199254740992L, 9007199254740992L);
        tells(7, 9007199254740993L, 9007199254740992L);
        tells(7, 9007199254740995L, 9007199254740996L);
        tells(7, -9007199254740995L, -9007199254740996L);
        tells(7, Long.MAX_VALUE, Long.MAX_VALUE);
        tells(7, Long.MIN_VALUE, Long.MIN_VALUE);
        tells(7, Long.MAX_VALUE - 1024, Long.MAX_VALUE - 1023);
        tells(7, 0, 0);
    }

    /** Wherever a value comes into a cell of a lane, the cell tells the same of it. */
    private static void tells(int lane, long v, long told) {
        Story s = with(THING, THING);
        int p = s.does("property", THING, lane, 0);
        s.does("give", 0, p, v);
        s.does("usual", THING, p, v);
        String why = "lane " + lane + " with " + v;
        s.due("10 given, " + why, told, "value", 0, p);
        s.due("12 given, " + why, told, "peek", p, lane, 0);
        s.due("10 usual, " + why, told, "value", 1, p);
        s.due("9 what the cell tells is not another, " + why, 1, "give", 0, p, told);
        int t = s.does("table", 1, 1, lane);
        s.does("fill", t, 0, 0, v);
        s.due("44 filled, " + why, told, "read", t, 0, 0);
        s.due("45 filled, " + why, 0, "choose", t, 0, told, 0);
        s.due("47 filled, " + why, told, "total", t, 0);
    }

    /** For each base of a property and of a thing whether the one takes the other. */
    private static void laneOfThings() {
        for (int of = 0; of < 6; of++) {
            Story s = with(THING, ROOM, DOOR, BACKDROP, CARRIER, PERSON);
            int child = s.does("kind", of);
            int p = s.does("property", THING, 8, child);
            for (int v = 0; v < 6; v++) {
                boolean takes = of == THING || v == of || of == CARRIER && v == PERSON;
                if (takes) {
                    s.due("5 its base is that", 1, "usual", THING, p, v);
                    s.due("9 its base is that", s.does("count", 3), "give", v, p, v);
                    s.due("12 the thing's number", v, "peek", p, 8, v);
                } else {
                    s.refused("5 its base is not that", STORE, "usual", THING, p, v);
                    s.refused("9 its base is not that", STORE, "give", v, p, v);
                    s.due("12 nothing", NONE, "peek", p, 8, v);
                }
            }
            s.due("9 nothing", s.does("count", 3), "give", s.does("thing", THING, 0), p, NONE);
        }
    }
}
