/** The boundary cases of the promises 6 and 9 to 18. */
public final class ThingsBoundsTest extends Bounds {
    public static void main(String[] args) {
        thing();
        thingFull();
        give();
        giveOfThings();
        giveFull();
        value();
        given();
        peek();
        place();
        saysRefusals();
        saysOfEachBase();
        bulks();
        strides();
        lids();
        follow();
        mark();
        remark();
        open();
        due.end();
    }

    private static void thing() {
        Story s = story();
        s.refused("6 no such kind", UNKNOWN, "thing", 6, 0);
        s.refused("6 a kind below 0", UNKNOWN, "thing", -1, 0);
        s.refused("6 the least kind", UNKNOWN, "thing", LEAST, 0);
        s.refused("6 a size below 0", OUTSIDE, "thing", 0, -1);
        s.refused("6 a size above 1000", OUTSIDE, "thing", 0, 1001);
        s.refused("6 the least size", OUTSIDE, "thing", 0, LEAST);
        s.refused("6 the greatest size", OUTSIDE, "thing", 0, GREATEST);
        s.refused("6 the kind ahead of the size", UNKNOWN, "thing", 6, 1001);
        s.due("6 the size 0", 0, "thing", 0, 0);
        s.due("6 the size 1000", 1, "thing", 5, 1000);
        s.due("14 the size 0", 0, "says", 0, 0);
        s.due("14 the size 1000", 1010, "says", 1, 0);
    }

    private static void thingFull() {
        Story s = story();
        for (int t = 0; t < 63; t++) {
            s.does("thing", t % 6, 0);
        }
        s.due("6 the last one", 63, "thing", ROOM, 0);
        s.refused("6 things are 0 .. 63", FULL, "thing", 0, 0);
        s.refused("6 the size ahead of full", OUTSIDE, "thing", 0, 1001);
        s.refused("6 the size below 0 ahead of full", OUTSIDE, "thing", 0, -1);
        s.refused("6 the kind ahead of full", UNKNOWN, "thing", 6, 0);
        s.due("6 64 of them", 64, "count", 2);
        s.due("7 into the last one", 0, "put", 0, 63);
        s.refused("7 there is no 64", UNKNOWN, "put", 0, 64);
    }

    private static void give() {
        Story s = with(THING, ROOM);
        int p = s.does("property", THING, 1, 0);
        int q = s.does("property", ROOM, 4, 0);
        s.refused("9 no such thing", UNKNOWN, "give", 2, p, 1);
        s.refused("9 a thing below 0", UNKNOWN, "give", -1, p, 1);
        s.refused("9 nothing is no thing", UNKNOWN, "give", NONE, p, 1);
        s.refused("9 no such property", UNKNOWN, "give", 0, 2, 1);
        s.refused("9 a property below 0", UNKNOWN, "give", 0, -1, 1);
        s.refused("9 it is none of those things", STATE, "give", 0, q, 1);
        s.refused("9 unknown ahead of state", UNKNOWN, "give", 0, 2, 1);
        s.due("9 a room is a thing", 0, "give", 1, p, 300);
        s.due("9 the property's own kind", 1, "give", 1, q, 1);
        s.refused("9 another value", against(0), "give", 1, p, 45);
        s.due("9 as the cell tells it", 2, "give", 1, p, 44);
        s.refused("9 against the latest give", against(2), "give", 1, p, 300 + 1);
        s.due("9 of another thing", 3, "give", 0, p, 45);
        s.refused("9 by another property", against(1), "give", 1, q, 44);
        s.due("9 the value stays", 44, "value", 1, p);
    }

    private static void giveOfThings() {
        Story s = with(THING, PERSON, CARRIER);
        int p = s.does("property", CARRIER, 8, PERSON);
        s.refused("9 v is no thing", UNKNOWN, "give", 2, p, 3);
        s.refused("9 v is below 0", UNKNOWN, "give", 2, p, -1);
        s.refused("9 v is just above nothing", UNKNOWN, "give", 2, p, NONE + 1);
        s.refused("9 v is just below nothing", UNKNOWN, "give", 2, p, NONE - 1);
        s.refused("9 v is a thing by its lowest bits alone", UNKNOWN, "give", 2, p, (1L << 32) + 1);
        s.refused("9 v is nothing by its lowest bits alone", UNKNOWN, "give", 2, p, 0xffff_fff7L);
        s.refused("9 v unknown ahead of state", UNKNOWN, "give", 0, p, 3);
        s.refused("9 state ahead of store", STATE, "give", 0, p, 2);
        s.refused("9 a row does not take that", STORE, "give", 2, p, 2);
        s.due("9 a person", 0, "give", 2, p, 1);
        s.refused("9 store ahead of against", STORE, "give", 2, p, 0);
        s.refused("9 nothing is another one", against(0), "give", 2, p, NONE);
        s.due("9 nothing", 1, "give", 1, p, NONE);
        s.refused("9 a person is another one than nothing", against(1), "give", 1, p, 1);
        s.due("9 nothing again", 2, "give", 1, p, NONE);
        s.does("clear");
        s.does("thing", THING, 0);
        int q = s.does("property", THING, 8, THING);
        s.due("9 itself", 0, "give", 0, q, 0);
    }

    private static void giveFull() {
        Story s = with(THING, ROOM);
        int p = s.does("property", THING, 4, 0);
        int q = s.does("property", ROOM, 4, 0);
        int r = s.does("property", THING, 8, ROOM);
        s.does("give", 0, p, 1);
        s.sentences(299);
        s.due("9 the last sentence", 299, "give", 1, q, 1);
        s.refused("9 300 sentences at most", FULL, "give", 0, p, 1);
        s.refused("9 full ahead of against", FULL, "give", 0, p, 2);
        s.refused("9 full ahead of store", FULL, "give", 0, r, 0);
        s.refused("9 state ahead of full", STATE, "give", 0, q, 1);
        s.refused("9 unknown ahead of full", UNKNOWN, "give", 2, p, 1);
        s.refused("9 v unknown ahead of full", UNKNOWN, "give", 0, r, 2);
        s.due("9 300 of them", 300, "count", 3);
    }

    private static void value() {
        Story s = with(THING, ROOM);
        int p = s.does("property", ROOM, 4, 0);
        s.refused("10 no such thing", UNKNOWN, "value", 2, p);
        s.refused("10 a thing below 0", UNKNOWN, "value", -1, p);
        s.refused("10 no such property", UNKNOWN, "value", 1, 1);
        s.refused("10 a property below 0", UNKNOWN, "value", 1, -1);
        s.refused("10 it is none of those things", STATE, "value", 0, p);
        s.refused("10 unknown ahead of state", UNKNOWN, "value", 0, 1);
        s.due("10 it is", 0, "value", 1, p);
        s.does("give", 1, p, -1);
        s.due("10 a value as unknown is", -1, "value", 1, p);
    }

    private static void given() {
        Story s = with(THING, ROOM);
        int p = s.does("property", ROOM, 4, 0);
        s.refused("11 no such thing", UNKNOWN, "given", 2, p);
        s.refused("11 a thing below 0", UNKNOWN, "given", -1, p);
        s.refused("11 no such property", UNKNOWN, "given", 1, 1);
        s.refused("11 a property below 0", UNKNOWN, "given", 1, -1);
        s.due("11 none of those things", NONE, "given", 0, p);
        s.due("11 none", NONE, "given", 1, p);
        s.does("usual", ROOM, p, 3);
        s.due("11 a usual is not given", NONE, "given", 1, p);
        s.does("give", 1, p, 0);
        s.due("11 the sentence 0", 0, "given", 1, p);
        s.does("give", 1, p, 0);
        s.due("11 the latest", 1, "given", 1, p);
        s.refused("9 another", against(1), "give", 1, p, 1);
        s.due("11 a refused one is none", 1, "given", 1, p);
    }

    private static void peek() {
        Story s = with(THING);
        for (int lane = 0; lane < 9; lane++) {
            int p = s.does("property", THING, lane, 0);
            s.due("12 none was given, the first cell", lane == 8 ? NONE : 0, "peek", p, lane, 0);
            s.due("12 none was given, the last cell", lane == 8 ? NONE : 0, "peek", p, lane, 63);
            s.refused("12 there is no cell 64", INDEX, "peek", p, lane, 64);
            s.refused("12 no cell below 0", INDEX, "peek", p, lane, -1);
            for (int other = 0; other < 9; other++) {
                if (other != lane) {
                    s.due("12 of another lane", CAST, "peek", p, other, 0);
                }
            }
            s.refused("12 cast ahead of index", CAST, "peek", p, (lane + 1) % 9, 64);
            s.refused("12 a lane above 8", OUTSIDE, "peek", p, 9, 64);
            s.refused("12 a lane below 0", OUTSIDE, "peek", p, -1, -1);
            s.refused("12 the property ahead of the lane", UNKNOWN, "peek", p + 1, 9, 64);
        }
        s.refused("12 a property below 0", UNKNOWN, "peek", -1, 0, 0);
        s.refused("12 the least cell", INDEX, "peek", 0, 0, LEAST);
        s.refused("12 the greatest cell", INDEX, "peek", 0, 0, GREATEST);
        s.does("usual", THING, 4, 5);
        s.due("12 a usual is not given", 0, "peek", 4, 4, 0);
        for (int t = 1; t < 64; t++) {
            s.does("thing", THING, 0);
        }
        s.does("give", 63, 4, 6);
        s.due("12 given in the last cell", 6, "peek", 4, 4, 63);
        s.due("12 the cell ahead of it", 0, "peek", 4, 4, 62);
    }

    private static void place() {
        Story s = with(ROOM, ROOM, ROOM, ROOM, ROOM, ROOM, BACKDROP, THING);
        s.refused("13 no such thing", UNKNOWN, "place", 8, 0);
        s.refused("13 a thing below 0", UNKNOWN, "place", -1, 0);
        s.due("13 a thing that lies nowhere", NONE, "place", 7, 0);
        s.due("13 a room lies nowhere", NONE, "place", 0, 0);
        for (int k = 0; k < 6; k++) {
            s.does("put", 6, 5 - k);
            s.due("13 as they were told", 5 - k, "place", 6, k);
            s.due("13 none behind", NONE, "place", 6, k + 1);
        }
        s.due("13 the first", 5, "place", 6, 0);
        s.due("13 below the first", NONE, "place", 6, -1);
        s.due("13 the least k", NONE, "place", 6, LEAST);
        s.due("13 the greatest k", NONE, "place", 6, GREATEST);
        s.does("put", 7, 0);
        s.due("13 the holder 0", 0, "place", 7, 0);
        s.due("13 only one", NONE, "place", 7, 1);
    }

    private static void saysRefusals() {
        Story s = with(THING);
        s.refused("14 no such thing", UNKNOWN, "says", 1, 0);
        s.refused("14 a thing below 0", UNKNOWN, "says", -1, 0);
        s.refused("14 what below 0", OUTSIDE, "says", 0, -1);
        s.refused("14 what above 4", OUTSIDE, "says", 0, 5);
        s.refused("14 the least what", OUTSIDE, "says", 0, LEAST);
        s.refused("14 the greatest what", OUTSIDE, "says", 0, GREATEST);
        s.refused("14 the thing ahead of what", UNKNOWN, "says", 1, 5);
    }

    private static void saysOfEachBase() {
        for (int size : new int[] {0, 1, 1000}) {
            int worth = 3 * size + 1;
            int[][] wanted = {
                {size, worth, CAST, CAST, CAST},
                {0, worth + 1000, 0, CAST, CAST},
                {2 * size, worth + 100, CAST, 10 * size, CAST},
                {0, -worth, CAST, CAST, CAST},
                {size, worth, 0, size, CAST},
                {size + 10, 2 * worth, 0, size, QUOTIENT}};
            Story s = story();
            for (int base = 0; base < 6; base++) {
                s.does("thing", base, size);
            }
            for (int base = 0; base < 6; base++) {
                for (int what = 0; what < 5; what++) {
                    String why = "14 base " + base + " says " + what;
                    if (wanted[base][what] == CAST || wanted[base][what] == QUOTIENT) {
                        s.refused(why, wanted[base][what], "says", base, what);
                    } else {
                        s.due(why, wanted[base][what], "says", base, what);
                    }
                }
            }
        }
    }

    /** A LOAD is of all that lies in a holder, however deep; a backdrop adds nothing to it. */
    private static void bulks() {
        Story s = story();
        int room = s.does("thing", ROOM, 1000);
        int man = s.does("thing", PERSON, 100);
        int box = s.does("thing", CARRIER, 20);
        int coin = s.does("thing", THING, 3);
        int sky = s.does("thing", BACKDROP, 500);
        s.does("put", coin, box);
        s.does("put", sky, room);
        s.due("14 a backdrop is no load", 0, "says", room, 2);
        s.due("14 the load of the box", 3, "says", box, 2);
        s.due("14 the bulk of the box", 23, "says", box, 0);
        s.does("put", box, man);
        s.due("14 the load of the man", 23, "says", man, 2);
        s.due("14 the bulk of the man", 133, "says", man, 0);
        s.does("put", man, room);
        s.due("14 the load of the room", 133, "says", room, 2);
        s.due("14 a room's bulk is its load alone", 133, "says", room, 0);
        s.does("remark", box, 1, 999);
        s.does("remark", coin, 0, 999);
        s.due("14 marks change no bulk", 133, "says", room, 0);
        s.due("14 marks change no worth", 10, "says", coin, 1);

        Story t = story();
        t.does("thing", THING, 4);
        t.does("thing", CARRIER, 0);
        t.does("put", 0, 1);
        t.due("14 the thing 0 is a load, too", 4, "says", 1, 2);

        Story u = story();
        for (int i = 0; i < 64; i++) {
            u.does("thing", PERSON, 1000);
        }
        for (int i = 0; i < 63; i++) {
            u.does("put", i, i + 1);
        }
        u.due("14 the greatest load there can be", 63 * 1010, "says", 63, 2);
        u.due("14 the greatest bulk", 64 * 1010, "says", 63, 0);
    }

    /** 1000 / LOAD, cut, on both sides of the loads at which it changes. */
    private static void strides() {
        int[][] loads = {{1, 1000}, {2, 500}, {3, 333}, {334, 2}, {333, 3}, {501, 1}, {500, 2}, {999, 1}, {1000, 1}};
        for (int[] load : loads) {
            Story s = story();
            int man = s.does("thing", PERSON, 5);
            int t = s.does("thing", THING, load[0]);
            s.refused("14 by 0", QUOTIENT, "says", man, 4);
            s.does("put", t, man);
            s.due("14 stride by " + load[0], load[1], "says", man, 4);
        }
        Story s = story();
        int man = s.does("thing", PERSON, 5);
        s.does("put", s.does("thing", THING, 0), man);
        s.refused("14 a load of 0", QUOTIENT, "says", man, 4);
        s.does("put", s.does("thing", THING, 1000), man);
        s.does("put", s.does("thing", THING, 1), man);
        s.due("14 above 1000", 0, "says", man, 4);
    }

    private static void lids() {
        Story s = story();
        int door = s.does("thing", DOOR, 1000);
        int box = s.does("thing", CARRIER, 1000);
        int man = s.does("thing", PERSON, 7);
        s.does("open", door, true);
        s.does("open", box, true);
        s.due("14 an open door", 10001, "says", door, 3);
        s.due("14 an open box", 2000, "says", box, 3);
        s.due("14 a person's as a carrier's", 7, "says", man, 3);
        s.does("open", man, true);
        s.due("14 a person's as a carrier's, open", 1007, "says", man, 3);
        s.does("remark", door, 0, 5);
        s.due("14 not the mark as a thing", 10001, "says", door, 3);
        s.does("remark", door, 1, 0);
        s.due("14 the own mark", 1, "says", door, 3);
        s.does("open", door, false);
        s.due("14 not open", 0, "says", door, 3);
    }

    private static void follow() {
        Story s = with(THING, PERSON, ROOM);
        int p = s.does("property", PERSON, 8, THING);
        int q = s.does("property", PERSON, 4, 0);
        s.refused("15 no such thing", UNKNOWN, "follow", 3, p, 0);
        s.refused("15 a thing below 0", UNKNOWN, "follow", -1, p, 0);
        s.refused("15 no such property", UNKNOWN, "follow", 1, 2, 0);
        s.refused("15 a property below 0", UNKNOWN, "follow", 1, -1, 0);
        s.refused("15 what below 0", OUTSIDE, "follow", 1, p, -1);
        s.refused("15 what above 4", OUTSIDE, "follow", 1, p, 5);
        s.refused("15 unknown ahead of outside", UNKNOWN, "follow", 1, 2, 5);
        s.refused("15 outside ahead of state", OUTSIDE, "follow", 0, p, 5);
        s.refused("15 outside ahead of cast", OUTSIDE, "follow", 1, q, 5);
        s.refused("15 it is none of those things", STATE, "follow", 0, p, 0);
        s.refused("15 state ahead of cast", STATE, "follow", 0, q, 0);
        s.refused("15 the lane is not 8", CAST, "follow", 1, q, 0);
        s.refused("15 it has nothing", NULL, "follow", 1, p, 0);
        s.refused("15 null ahead of what says() would fault", NULL, "follow", 1, p, 4);
        s.does("usual", PERSON, p, 0);
        s.due("15 the thing 0, by the usual", 1, "follow", 1, p, 1);
        s.refused("15 it has no load", CAST, "follow", 1, p, 2);
        s.does("give", 1, p, 1);
        s.due("15 itself", 10, "follow", 1, p, 0);
        s.refused("15 a stride by 0", QUOTIENT, "follow", 1, p, 4);
        s.does("give", s.does("thing", PERSON, 0), p, NONE);
        s.refused("15 it was given nothing", NULL, "follow", 3, p, 0);
    }

    private static void mark() {
        Story s = story();
        for (int base = 0; base < 6; base++) {
            s.does("thing", base, 100 + base);
        }
        s.refused("16 no such thing", UNKNOWN, "mark", 6, 0);
        s.refused("16 a thing below 0", UNKNOWN, "mark", -1, 0);
        s.refused("16 how below 0", OUTSIDE, "mark", 4, -1);
        s.refused("16 how above 1", OUTSIDE, "mark", 4, 2);
        s.refused("16 the thing ahead of how", UNKNOWN, "mark", 6, 2);
        s.refused("16 how ahead of cast", OUTSIDE, "mark", 0, 2);
        for (int base = 0; base < 6; base++) {
            s.due("16 the size at first", 100 + base, "mark", base, 0);
            if (base == DOOR || base == CARRIER || base == PERSON) {
                s.due("16 its own, the size at first", 100 + base, "mark", base, 1);
            } else {
                s.refused("16 it has none of its own", CAST, "mark", base, 1);
            }
        }
    }

    private static void remark() {
        Story s = story();
        for (int base = 0; base < 6; base++) {
            s.does("thing", base, 100 + base);
        }
        s.refused("17 no such thing", UNKNOWN, "remark", 6, 0, 0);
        s.refused("17 a thing below 0", UNKNOWN, "remark", -1, 0, 0);
        s.refused("17 how below 0", OUTSIDE, "remark", 4, -1, 0);
        s.refused("17 how above 1", OUTSIDE, "remark", 4, 2, 0);
        s.refused("17 v below 0", OUTSIDE, "remark", 4, 1, -1);
        s.refused("17 v above 1000", OUTSIDE, "remark", 4, 1, 1001);
        s.refused("17 v below 0, as a thing", OUTSIDE, "remark", 4, 0, -1);
        s.refused("17 v above 1000, as a thing", OUTSIDE, "remark", 4, 0, 1001);
        s.refused("17 the least v", OUTSIDE, "remark", 4, 0, LEAST);
        s.refused("17 the greatest v", OUTSIDE, "remark", 4, 0, GREATEST);
        s.refused("17 the thing ahead of v", UNKNOWN, "remark", 6, 0, 1001);
        s.refused("17 how ahead of cast", OUTSIDE, "remark", 0, 2, 0);
        s.refused("17 v ahead of cast", OUTSIDE, "remark", 0, 1, 1001);
        s.refused("17 v below 0 ahead of cast", OUTSIDE, "remark", 0, 1, -1);
        for (int base = 0; base < 6; base++) {
            s.due("17 what it was", 100 + base, "remark", base, 0, 1000);
            s.due("17 what it became", 1000, "remark", base, 0, 0);
            s.due("16 what it became", 0, "mark", base, 0);
            if (base == DOOR || base == CARRIER || base == PERSON) {
                s.due("17 what its own was", 100 + base, "remark", base, 1, 0);
                s.due("17 what its own became", 0, "remark", base, 1, 1000);
                s.due("16 what its own became", 1000, "mark", base, 1);
                s.due("16 the other stays", 0, "mark", base, 0);
            } else {
                s.refused("17 it has none of its own", CAST, "remark", base, 1, 0);
            }
        }
    }

    private static void open() {
        Story s = with(THING, ROOM, DOOR, BACKDROP, CARRIER, PERSON);
        s.refused("18 no such thing", UNKNOWN, "open", 6, true);
        s.refused("18 a thing below 0", UNKNOWN, "open", -1, true);
        for (int base = 0; base < 6; base++) {
            if (base == DOOR || base == CARRIER || base == PERSON) {
                s.due("18 at first not", 0, "open", base, false);
                s.due("18 still not", 0, "open", base, true);
                s.due("18 it was", 1, "open", base, true);
                s.due("18 it was still", 1, "open", base, false);
                s.due("18 it was not", 0, "open", base, false);
            } else {
                s.refused("18 it has no lid", CAST, "open", base, true);
                s.refused("18 it has no lid to shut", CAST, "open", base, false);
            }
        }
    }
}
