/** The boundary cases of the promises 7 and 8: what is put, and what is barred. */
public final class PutBoundsTest extends Bounds {
    public static void main(String[] args) {
        putUnknown();
        putOfEachBase();
        withinItself();
        thereAlready();
        putElsewhere();
        barAheadOfTheRest();
        setAheadOfTheRest();
        mostAheadOfThePair();
        mostAtItsEdge();
        pairs();
        backdrops();
        backdropsAgainst();
        putFull();
        bar();
        barOfEachBase();
        barAgainst();
        barFull();
        due.end();
    }

    private static void putUnknown() {
        Story s = with(ROOM, THING);
        s.refused("7 no such thing", UNKNOWN, "put", 2, 0);
        s.refused("7 a thing below 0", UNKNOWN, "put", -1, 0);
        s.refused("7 no such holder", UNKNOWN, "put", 1, 2);
        s.refused("7 a holder below 0", UNKNOWN, "put", 1, -1);
        s.refused("7 nothing is no holder", UNKNOWN, "put", 1, NONE);
        s.refused("7 the least thing", UNKNOWN, "put", LEAST, 0);
        s.refused("7 the greatest holder", UNKNOWN, "put", 1, GREATEST);
        s.refused("7 unknown ahead of a room put", UNKNOWN, "put", 0, 2);
        s.refused("7 unknown ahead of no holder", UNKNOWN, "put", 2, 1);
    }

    /** Each base into each base: ROOMS and DOORS lie nowhere, BACKDROPS in ROOMS, the others in HOLDERS. */
    private static void putOfEachBase() {
        for (int base = 0; base < 6; base++) {
            for (int other = 0; other < 6; other++) {
                Story s = with(base, other);
                boolean fixed = base == ROOM || base == DOOR;
                boolean holder = other == ROOM || other == CARRIER || other == PERSON;
                boolean lies = !fixed && (base == BACKDROP ? other == ROOM : holder);
                String why = "7 base " + base + " into base " + other;
                if (lies) {
                    s.due(why, 0, "put", 0, 1);
                    s.due(why, 1, "place", 0, 0);
                } else {
                    s.refused(why, STATE, "put", 0, 1);
                    s.due(why, NONE, "place", 0, 0);
                }
            }
        }
    }

    private static void withinItself() {
        Story s = with(ROOM, CARRIER, PERSON, CARRIER);
        s.refused("7 in itself", STATE, "put", 1, 1);
        s.due("7 1 in 2", 0, "put", 1, 2);
        s.refused("7 in what lies in it", STATE, "put", 2, 1);
        s.due("7 2 in 3", 1, "put", 2, 3);
        s.refused("7 in what lies in what lies in it", STATE, "put", 3, 1);
        s.refused("7 and in what lies in it", STATE, "put", 3, 2);
        s.refused("7 within itself ahead of the put elsewhere", STATE, "put", 2, 1);
        s.due("7 the outermost in a room", 2, "put", 3, 0);
        s.refused("7 within itself, though it lies elsewhere", STATE, "put", 3, 1);
        s.refused("7 outward is no ring, but elsewhere", against(0), "put", 1, 0);

        Story t = with(CARRIER, CARRIER);
        t.does("among", 0, set(1));
        t.does("settle");
        t.refused("7 in what was settled in it", STATE, "put", 1, 0);

        Story u = with(CARRIER, CARRIER);
        u.does("among", 0, set(1));
        u.due("7 what may come to lie in it does not yet", 1, "put", 1, 0);
        u.refused("22 now it can't", NOWAY, "settle");

        Story w = story();
        for (int i = 0; i < 64; i++) {
            w.does("thing", CARRIER, 0);
        }
        for (int i = 0; i < 63; i++) {
            w.does("put", i, i + 1);
        }
        w.refused("7 the outermost of 64 in the innermost", STATE, "put", 63, 0);
    }

    private static void thereAlready() {
        Story s = with(ROOM, ROOM, THING, THING);
        s.does("put", 2, 0);
        s.refused("7 it lies there already", STATE, "put", 2, 0);
        s.does("among", 3, set(1));
        s.does("settle");
        s.refused("7 it was settled there already", STATE, "put", 3, 1);
        s.does("most", 0, 1);
        s.refused("7 there already ahead of the most", STATE, "put", 2, 0);
    }

    /** The put() elsewhere goes ahead of all else, though those were told first. */
    private static void putElsewhere() {
        Story s = with(ROOM, ROOM, THING, THING);
        s.does("bar", 2, 1);
        s.does("most", 1, 0);
        s.does("pair", 2, 3, true);
        s.does("among", 2, set(0));
        s.due("7 put", 4, "put", 2, 0);
        s.refused("7 the put elsewhere first", against(4), "put", 2, 1);

        Story t = with(ROOM, ROOM, ROOM, THING, THING);
        t.does("put", 4, 0);
        t.does("pair", 3, 4, true);
        t.due("7 with the other", 2, "put", 3, 0);
        t.refused("7 the put elsewhere ahead of the pair", against(2), "put", 3, 1);
        t.does("among", 3, set(0, 2));
        t.does("bar", 3, 2);
        t.refused("7 the put elsewhere ahead of the set", against(2), "put", 3, 1);
        t.refused("7 the put elsewhere ahead of the bar", against(2), "put", 3, 2);

        Story u = with(ROOM, ROOM, THING);
        u.does("among", 2, set(1));
        u.does("settle");
        u.refused("7 settled elsewhere", against(1), "put", 2, 0);
    }

    private static void barAheadOfTheRest() {
        Story s = with(ROOM, ROOM, THING, THING);
        s.does("among", 2, set(0));
        s.does("most", 1, 0);
        s.does("put", 3, 0);
        s.does("pair", 2, 3, true);
        s.refused("7 without the bar the set", against(0), "put", 2, 1);
        s.due("8 bar", 4, "bar", 2, 1);
        s.refused("7 the bar ahead of the set", against(4), "put", 2, 1);
        s.due("8 bar again", 5, "bar", 2, 1);
        s.refused("7 the first bar of it there", against(4), "put", 2, 1);
        s.due("7 where it is not barred", 6, "put", 2, 0);

        Story t = with(ROOM, ROOM, THING, THING);
        t.does("bar", 3, 1);
        t.does("bar", 2, 0);
        t.due("7 the bar of another, and elsewhere", 2, "put", 2, 1);
    }

    private static void setAheadOfTheRest() {
        Story s = with(ROOM, ROOM, ROOM, THING, THING);
        s.does("most", 1, 0);
        s.does("put", 4, 0);
        s.does("pair", 3, 4, true);
        s.refused("7 without a set the most", against(0), "put", 3, 1);
        s.due("19 among", 3, "among", 3, set(0, 2));
        s.refused("7 the set ahead of the most", against(3), "put", 3, 1);
        s.due("19 among again", 4, "among", 3, set(0, 1, 2));
        s.refused("7 the latest among, though that has it", against(4), "put", 3, 1);
        s.due("7 what the set has", 5, "put", 3, 0);

        Story t = with(ROOM, ROOM, ROOM, THING, THING);
        t.does("put", 4, 0);
        t.does("pair", 3, 4, true);
        t.does("among", 3, set(0, 2));
        t.refused("7 the set ahead of the pair", against(2), "put", 3, 1);
        t.refused("7 the pair, where the set has it", against(1), "put", 3, 2);
    }

    private static void mostAheadOfThePair() {
        Story s = with(ROOM, ROOM, THING, THING);
        s.does("put", 3, 0);
        s.does("pair", 2, 3, true);
        s.refused("7 without a most the pair", against(1), "put", 2, 1);
        s.due("21 most", 2, "most", 1, 0);
        s.refused("7 the most ahead of the pair", against(2), "put", 2, 1);
    }

    private static void mostAtItsEdge() {
        Story s = with(ROOM, THING, THING, THING, BACKDROP, CARRIER);
        s.due("21 two at most", 0, "most", 0, 2);
        s.due("7 a backdrop does not count", 1, "put", 4, 0);
        s.due("7 the first", 2, "put", 1, 0);
        s.due("7 the second", 3, "put", 2, 0);
        s.refused("7 the third", against(0), "put", 3, 0);
        s.due("7 a backdrop is let still", 4, "put", s.does("thing", BACKDROP, 0), 0);
        s.due("7 another holder has none", 5, "put", 3, 5);
        s.refused("7 a carrier counts, too", against(0), "put", 5, 0);

        Story t = with(CARRIER, THING);
        t.does("most", 0, 0);
        t.refused("7 none at most", against(0), "put", 1, 0);

        Story u = with(ROOM, CARRIER, THING);
        u.does("most", 0, 1);
        u.does("put", 1, 0);
        u.due("7 what lies in what lies there does not count", 2, "put", 2, 1);

        Story w = with(ROOM, THING, THING);
        w.does("most", 0, 1);
        w.does("among", 1, set(0));
        w.due("7 what is not settled does not count", 2, "put", 2, 0);
    }

    private static void pairs() {
        Story s = with(ROOM, ROOM, THING, THING, THING);
        s.does("pair", 2, 3, true);
        s.does("pair", 4, 2, false);
        s.due("7 the others were not put", 2, "put", 3, 0);
        s.refused("7 alike, the one", against(0), "put", 2, 1);
        s.does("put", 4, 1);
        s.refused("7 the first of two pairs", against(0), "put", 2, 1);
        s.due("7 as both pairs let", 4, "put", 2, 0);

        Story t = with(ROOM, ROOM, THING, THING, THING);
        t.does("pair", 2, 3, true);
        t.does("pair", 4, 2, false);
        t.does("put", 4, 1);
        t.refused("7 not the same, the other", against(1), "put", 2, 1);
        t.due("7 the pair with one that was not put does not count", 3, "put", 2, 0);
        t.refused("7 alike, the other of both", against(0), "put", 3, 1);

        Story u = with(ROOM, ROOM, THING, THING);
        u.does("pair", 2, 3, true);
        u.does("among", 3, set(0));
        u.due("7 one that is not settled was not put", 2, "put", 2, 1);

        Story v = with(THING, ROOM, ROOM, THING);
        v.does("pair", 3, 0, true);
        v.does("put", 0, 1);
        v.refused("7 a pair with the thing 0", against(0), "put", 3, 2);
        v.due("7 with the thing 0", 2, "put", 3, 1);

        Story x = with(THING, ROOM, ROOM, THING, THING, THING);
        x.does("put", 0, 1);
        x.does("pair", 3, 4, true);
        x.does("pair", 4, 3, true);
        x.due("7 a pair of others does not count, nor that the thing 0 lies elsewhere", 3, "put", 5, 2);

        Story w = with(ROOM, ROOM, THING, THING);
        w.does("pair", 2, 3, true);
        w.does("among", 3, set(0));
        w.does("settle");
        w.refused("7 one that was settled was put", against(0), "put", 2, 1);
    }

    private static void backdrops() {
        Story s = with(ROOM, ROOM, ROOM, ROOM, ROOM, ROOM, ROOM, BACKDROP);
        for (int room = 0; room < 5; room++) {
            s.due("7 in several", room, "put", 7, room);
        }
        s.refused("7 it lies there already", STATE, "put", 7, 0);
        s.due("7 in a sixth", 5, "put", 7, 5);
        s.refused("7 six at most", FULL, "put", 7, 6);
        s.refused("7 the first again is state ahead of full", STATE, "put", 7, 0);
        s.refused("7 the sixth again is state ahead of full", STATE, "put", 7, 5);
        s.due("7 another backdrop has its own six", 6, "put", s.does("thing", BACKDROP, 0), 6);
        s.does("bar", 7, 6);
        s.refused("7 six at most ahead of the bar", FULL, "put", 7, 6);
    }

    private static void backdropsAgainst() {
        Story s = with(ROOM, ROOM, BACKDROP);
        s.does("most", 0, 0);
        s.due("7 the most does not count for it", 1, "put", 2, 0);
        s.does("bar", 2, 1);
        s.does("bar", 2, 1);
        s.refused("7 the first bar of it there", against(2), "put", 2, 1);
        s.refused("8 the put of it there", against(1), "bar", 2, 0);

        Story t = with(ROOM, ROOM, BACKDROP);
        t.does("put", 2, 0);
        t.does("put", 2, 1);
        t.refused("8 the put of it in its second", against(1), "bar", 2, 1);
        t.refused("8 the put of it in its first", against(0), "bar", 2, 0);
    }

    private static void putFull() {
        Story s = with(ROOM, ROOM, BACKDROP, THING, THING);
        s.does("put", 3, 0);
        s.sentences(299);
        s.due("7 the last sentence", 299, "put", 2, 0);
        s.refused("7 300 sentences at most", FULL, "put", 4, 0);
        s.refused("7 full ahead of against", FULL, "put", 3, 1);
        s.refused("7 there already ahead of full", STATE, "put", 3, 0);
        s.refused("7 no holder ahead of full", STATE, "put", 4, 3);
        s.refused("7 unknown ahead of full", UNKNOWN, "put", 5, 0);
        s.refused("7 a backdrop, too", FULL, "put", 2, 1);
    }

    private static void bar() {
        Story s = with(ROOM, THING);
        s.refused("8 no such thing", UNKNOWN, "bar", 2, 0);
        s.refused("8 a thing below 0", UNKNOWN, "bar", -1, 0);
        s.refused("8 no such holder", UNKNOWN, "bar", 1, 2);
        s.refused("8 a holder below 0", UNKNOWN, "bar", 1, -1);
        s.refused("8 unknown ahead of state", UNKNOWN, "bar", 0, 2);
        s.refused("8 unknown ahead of no holder", UNKNOWN, "bar", 2, 1);
        s.due("8 bar", 0, "bar", 1, 0);
        s.due("8 the same again", 1, "bar", 1, 0);
        s.due("53 two sentences", 2, "count", 3);
    }

    private static void barOfEachBase() {
        for (int base = 0; base < 6; base++) {
            for (int other = 0; other < 6; other++) {
                Story s = with(base, other);
                boolean fixed = base == ROOM || base == DOOR;
                boolean holder = other == ROOM || other == CARRIER || other == PERSON;
                String why = "8 base " + base + " in base " + other;
                if (!fixed && holder) {
                    s.due(why, 0, "bar", 0, 1);
                } else {
                    s.refused(why, STATE, "bar", 0, 1);
                }
            }
        }
    }

    private static void barAgainst() {
        Story s = with(ROOM, ROOM, ROOM, THING);
        s.does("among", 3, set(0, 1));
        s.due("8 a holder that the set has not", 1, "bar", 3, 2);
        s.due("23 the set stays", set(0, 1), "set", 3);
        s.due("8 one of two", 2, "bar", 3, 0);
        s.due("23 that leaves the set", set(1), "set", 3);
        s.refused("8 nothing would be left", against(0), "bar", 3, 1);
        s.due("19 among", 3, "among", 3, set(1, 2));
        s.refused("8 the latest among", against(3), "bar", 3, 1);
        s.due("7 put", 4, "put", 3, 1);
        s.refused("8 the put ahead of the among", against(4), "bar", 3, 1);
        s.due("8 elsewhere", 5, "bar", 3, 0);

        Story t = with(ROOM, ROOM, THING, THING);
        t.does("put", 2, 0);
        t.due("8 without a set all may be barred", 1, "bar", 2, 1);
        t.due("8 of another", 2, "bar", 3, 0);
        t.due("8 of another, all", 3, "bar", 3, 1);

        Story u = with(ROOM, THING);
        u.does("among", 1, set(0));
        u.does("settle");
        u.refused("8 the put of settle", against(1), "bar", 1, 0);
    }

    private static void barFull() {
        Story s = with(ROOM, ROOM, THING, THING);
        s.does("put", 2, 0);
        s.sentences(299);
        s.due("8 the last sentence", 299, "bar", 2, 1);
        s.refused("8 300 sentences at most", FULL, "bar", 2, 1);
        s.refused("8 full ahead of against", FULL, "bar", 2, 0);
        s.refused("8 state ahead of full", STATE, "bar", 2, 3);
        s.refused("8 unknown ahead of full", UNKNOWN, "bar", 2, 4);
    }
}
