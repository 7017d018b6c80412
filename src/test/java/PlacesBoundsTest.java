/** The boundary cases of the promises 19 to 23: places that are not sure. */
public final class PlacesBoundsTest extends Bounds {
    public static void main(String[] args) {
        among();
        amongOfEachBase();
        amongAgainst();
        amongBarred();
        amongFull();
        pair();
        pairAgainst();
        pairFull();
        most();
        mostAgainst();
        mostFull();
        settleNothing();
        settleOfSeven();
        settleOf3000();
        settleFull();
        settleWithin();
        settleCrowded();
        settlePairs();
        settleLeast();
        set();
        due.end();
    }

    private static void among() {
        Story s = with(ROOM, CARRIER, THING, DOOR);
        s.refused("19 no such thing", UNKNOWN, "among", 4, set(0));
        s.refused("19 a thing below 0", UNKNOWN, "among", -1, set(0));
        s.refused("19 a bit of no thing", UNKNOWN, "among", 2, set(4));
        s.refused("19 a bit of no thing beside others", UNKNOWN, "among", 2, set(0, 1, 4));
        s.refused("19 the highest bit", UNKNOWN, "among", 2, Long.MIN_VALUE);
        s.refused("19 all bits", UNKNOWN, "among", 2, -1L);
        s.refused("19 no bit", OUTSIDE, "among", 2, 0);
        s.refused("19 the thing ahead of no bit", UNKNOWN, "among", 4, 0);
        s.refused("19 no bit ahead of state", OUTSIDE, "among", 0, 0);
        s.refused("19 a bit of no thing ahead of state", UNKNOWN, "among", 0, set(4));
        s.refused("19 a bit is it itself", STATE, "among", 1, set(1));
        s.refused("19 a bit is it itself, beside another", STATE, "among", 1, set(0, 1));
        s.refused("19 a bit of no holder", STATE, "among", 2, set(3));
        s.refused("19 a bit of no holder, beside others", STATE, "among", 2, set(0, 1, 3));
        s.refused("19 a thing's own bit", STATE, "among", 2, set(2));
        s.due("19 all holders", 0, "among", 2, set(0, 1));
        Story o = with(THING, ROOM, THING);
        o.refused("19 the bit of the thing 0, no holder", STATE, "among", 2, set(0));
        o.refused("19 the bit of the thing 0, beside a holder", STATE, "among", 2, set(0, 1));
        s.due("23 all holders", set(0, 1), "set", 2);

        Story t = story();
        t.does("thing", THING, 0);
        for (int i = 1; i < 64; i++) {
            t.does("thing", ROOM, 0);
        }
        t.due("19 all 63 others", 0, "among", 0, -2L);
        t.due("23 all 63 others", -2L, "set", 0);
        t.due("52 the lowest 32 bits", -2, "sentence", 0, 2);
        t.refused("19 all 64", STATE, "among", 0, -1L);
        t.due("19 the highest bit", 1, "among", 0, Long.MIN_VALUE);
        t.due("52 the lowest 32 bits of the highest", 0, "sentence", 1, 2);
        t.due("22 settle", 1, "settle");
        t.due("13 in the last one", 63, "place", 0, 0);
    }

    private static void amongOfEachBase() {
        for (int base = 0; base < 6; base++) {
            for (int other = 0; other < 6; other++) {
                Story s = with(base, other);
                boolean fits = base == THING || base == CARRIER || base == PERSON;
                boolean holder = other == ROOM || other == CARRIER || other == PERSON;
                String why = "19 base " + base + " in base " + other;
                if (fits && holder) {
                    s.due(why, 0, "among", 0, set(1));
                } else {
                    s.refused(why, STATE, "among", 0, set(1));
                }
            }
        }
    }

    private static void amongAgainst() {
        Story s = with(ROOM, ROOM, ROOM, ROOM, THING);
        s.due("19 among", 0, "among", 4, set(0, 1));
        s.refused("19 nothing alike", against(0), "among", 4, set(2, 3));
        s.due("19 something alike", 1, "among", 4, set(1, 2));
        s.due("23 what both have", set(1), "set", 4);
        s.refused("19 nothing alike with what is left", against(1), "among", 4, set(0, 2));
        s.due("19 the same again", 2, "among", 4, set(1));
        s.refused("19 the latest", against(2), "among", 4, set(0));
        s.due("7 put", 3, "put", 4, 1);
        s.refused("19 the put, ahead of the latest among", against(3), "among", 4, set(0, 2));
        s.due("19 with the put's", 4, "among", 4, set(0, 1));
        s.due("23 what was told stays", set(1), "set", 4);

        Story t = with(ROOM, ROOM, THING);
        t.does("bar", 2, 1);
        t.does("put", 2, 0);
        t.refused("19 the put, without a set", against(1), "among", 2, set(1));
        t.due("23 no set", 0, "set", 2);
        t.due("19 the put's", 2, "among", 2, set(0, 1));
        t.due("23 without the barred one", set(0), "set", 2);
        t.due("53 it was put", 0, "count", 7);

        Story u = with(ROOM, ROOM, THING);
        u.does("among", 2, set(0));
        u.does("settle");
        u.refused("19 the put of settle", against(1), "among", 2, set(1));
    }

    private static void amongBarred() {
        Story s = with(ROOM, ROOM, ROOM, THING, THING);
        s.does("bar", 4, 0);
        s.does("bar", 3, 1);
        s.does("bar", 3, 0);
        s.does("bar", 3, 1);
        s.refused("19 both barred: the first bar into one of these", against(1), "among", 3, set(0, 1));
        s.refused("19 one barred: its bar", against(2), "among", 3, set(0));
        s.refused("19 one barred twice: its first bar", against(1), "among", 3, set(1));
        s.due("53 none is unsettled", 0, "count", 7);
        s.due("19 one is left", 4, "among", 3, set(0, 1, 2));
        s.due("23 one is left", set(2), "set", 3);
        s.refused("19 the latest among ahead of the bars", against(4), "among", 3, set(0, 1));
        s.due("19 another's bars do not count", 5, "among", 4, set(1));

        Story t = with(ROOM, THING);
        t.does("bar", 1, 0);
        t.refused("19 the bar is the sentence 0", against(0), "among", 1, set(0));
    }

    private static void amongFull() {
        Story s = with(ROOM, ROOM, THING, THING);
        s.does("put", 2, 0);
        s.sentences(299);
        s.due("19 the last sentence", 299, "among", 3, set(0));
        s.refused("19 300 sentences at most", FULL, "among", 3, set(0));
        s.refused("19 full ahead of against", FULL, "among", 2, set(1));
        s.refused("19 state ahead of full", STATE, "among", 2, set(3));
        s.refused("19 no bit ahead of full", OUTSIDE, "among", 2, 0);
        s.refused("19 unknown ahead of full", UNKNOWN, "among", 2, set(4));
    }

    private static void pair() {
        Story s = with(THING, CARRIER, PERSON);
        s.refused("20 no such one", UNKNOWN, "pair", 3, 0, true);
        s.refused("20 no such other", UNKNOWN, "pair", 0, 3, true);
        s.refused("20 one below 0", UNKNOWN, "pair", -1, 0, true);
        s.refused("20 other below 0", UNKNOWN, "pair", 0, -1, false);
        s.refused("20 both the same, but none", UNKNOWN, "pair", 3, 3, true);
        s.refused("20 both are one", STATE, "pair", 0, 0, true);
        s.refused("20 both are one, not alike", STATE, "pair", 0, 0, false);
        for (int base = 0; base < 6; base++) {
            for (int other = 0; other < 6; other++) {
                Story t = with(base, other);
                boolean fits = (base == THING || base >= CARRIER) && (other == THING || other >= CARRIER);
                String why = "20 base " + base + " with base " + other;
                if (fits) {
                    t.due(why, 0, "pair", 0, 1, true);
                } else {
                    t.refused(why, STATE, "pair", 0, 1, true);
                }
            }
        }
        s.due("20 a holder with what could lie in it", 0, "pair", 0, 1, true);
    }

    private static void pairAgainst() {
        Story s = with(ROOM, ROOM, THING, THING, THING);
        s.does("pair", 2, 3, true);
        s.does("pair", 3, 2, true);
        s.refused("20 the first that told the other", against(0), "pair", 2, 3, false);
        s.refused("20 either way round", against(0), "pair", 3, 2, false);
        s.due("20 the same again", 2, "pair", 2, 3, true);
        s.due("20 with another", 3, "pair", 2, 4, false);
        s.refused("20 that told the other, not alike", against(3), "pair", 4, 2, true);

        Story t = with(ROOM, ROOM, THING, THING, THING);
        t.does("put", 3, 0);
        t.due("20 only one was put", 1, "pair", 2, 3, true);
        t.does("put", 4, 1);
        t.refused("20 the later put of the two", against(2), "pair", 3, 4, true);
        t.refused("20 the later put of the two, turned", against(2), "pair", 4, 3, true);
        t.due("20 put so", 3, "pair", 4, 3, false);
        t.refused("20 the pair ahead of the put", against(3), "pair", 3, 4, true);

        Story u = with(ROOM, THING, THING);
        u.does("put", 2, 0);
        u.does("put", 1, 0);
        u.refused("20 put in the same", against(1), "pair", 1, 2, false);
        u.refused("20 put in the same, turned", against(1), "pair", 2, 1, false);
        u.due("20 put so", 2, "pair", 1, 2, true);

        Story x = with(THING, ROOM, ROOM, THING, THING, THING);
        x.does("pair", 3, 4, true);
        x.due("20 the pair of two others does not count for the thing 0", 1, "pair", 5, 0, false);
        x.due("20 nor with the thing 0 ahead", 2, "pair", 0, 5, false);

        Story w = with(ROOM, ROOM, THING, THING);
        w.does("among", 2, set(0));
        w.does("among", 3, set(1));
        w.due("20 sets are no put", 2, "pair", 2, 3, true);
        w.refused("22 but then there is no way", NOWAY, "settle");

        Story v = with(ROOM, ROOM, THING, THING);
        v.does("among", 2, set(0));
        v.does("among", 3, set(1));
        v.does("settle");
        v.refused("20 settled otherwise", against(3), "pair", 2, 3, true);
    }

    private static void pairFull() {
        Story s = with(ROOM, THING, THING, THING);
        for (int p = 0; p < 15; p++) {
            s.does("pair", 1, 2, true);
        }
        s.due("20 the sixteenth", 15, "pair", 1, 3, false);
        s.refused("20 16 pairs at most", FULL, "pair", 1, 2, true);
        s.refused("20 16 pairs ahead of against", FULL, "pair", 1, 2, false);
        s.refused("20 state ahead of 16 pairs", STATE, "pair", 1, 1, true);
        s.refused("20 a room ahead of 16 pairs", STATE, "pair", 1, 0, true);
        s.refused("20 unknown ahead of 16 pairs", UNKNOWN, "pair", 1, 4, true);
        s.due("53 16", 16, "count", 9);
        s.due("7 put", 16, "put", 3, 0);
        s.refused("7 the sixteenth counts", against(15), "put", 1, 0);

        Story t = with(ROOM, THING, THING);
        t.does("pair", 1, 2, true);
        t.sentences(299);
        t.due("20 the last sentence", 299, "pair", 1, 2, true);
        t.refused("20 300 sentences at most", FULL, "pair", 1, 2, true);
        t.refused("20 full ahead of against", FULL, "pair", 1, 2, false);
        t.refused("20 state ahead of full", STATE, "pair", 1, 1, false);
        t.due("53 two", 2, "count", 9);
    }

    private static void most() {
        Story s = with(ROOM, CARRIER, PERSON, THING, DOOR, BACKDROP);
        s.refused("21 no such thing", UNKNOWN, "most", 6, 0);
        s.refused("21 below 0", UNKNOWN, "most", -1, 0);
        s.refused("21 n below 0", OUTSIDE, "most", 0, -1);
        s.refused("21 n above 64", OUTSIDE, "most", 0, 65);
        s.refused("21 the least n", OUTSIDE, "most", 0, LEAST);
        s.refused("21 the greatest n", OUTSIDE, "most", 0, GREATEST);
        s.refused("21 unknown ahead of n", UNKNOWN, "most", 6, 65);
        s.refused("21 n ahead of state", OUTSIDE, "most", 3, 65);
        s.refused("21 a thing", STATE, "most", 3, 0);
        s.refused("21 a door", STATE, "most", 4, 0);
        s.refused("21 a backdrop", STATE, "most", 5, 0);
        s.due("21 0", 0, "most", 0, 0);
        s.due("21 64", 1, "most", 1, 64);
        s.due("21 a person", 2, "most", 2, 1);
        s.refused("21 it has one", STATE, "most", 0, 0);
        s.refused("21 it has one, of 64", STATE, "most", 1, 1);
        s.refused("21 n ahead of it has one", OUTSIDE, "most", 0, -1);
    }

    private static void mostAgainst() {
        Story s = with(ROOM, BACKDROP, THING, THING, THING, CARRIER, THING);
        s.does("put", 1, 0);
        s.does("put", 4, 0);
        s.does("put", 6, 5);
        s.does("put", 2, 0);
        s.does("put", 3, 0);
        s.refused("21 the one behind the first 0", against(1), "most", 0, 0);
        s.refused("21 the one behind the first 1", against(3), "most", 0, 1);
        s.refused("21 the one behind the first 2", against(4), "most", 0, 2);
        s.due("21 as many as lie there", 5, "most", 0, 3);
        s.refused("21 of another holder", against(2), "most", 5, 0);

        Story t = with(ROOM, BACKDROP, THING);
        t.does("put", 1, 0);
        t.due("21 backdrops do not count", 1, "most", 0, 0);

        Story u = with(ROOM, THING, THING);
        u.does("among", 2, set(0));
        u.does("among", 1, set(0));
        u.does("settle");
        u.refused("21 the put of settle, by number", against(3), "most", 0, 1);
        u.due("21 as many as were settled", 4, "most", 0, 2);

        Story v = with(ROOM, THING);
        v.does("put", 1, 0);
        v.refused("21 the put is the sentence 0", against(0), "most", 0, 0);

        Story w = with(ROOM, THING);
        w.does("among", 1, set(0));
        w.due("21 what is not settled does not lie there", 1, "most", 0, 0);
    }

    private static void mostFull() {
        Story s = with(ROOM, ROOM, ROOM, THING);
        s.does("put", 3, 0);
        s.sentences(299);
        s.due("21 the last sentence", 299, "most", 1, 0);
        s.refused("21 300 sentences at most", FULL, "most", 2, 0);
        s.refused("21 full ahead of against", FULL, "most", 0, 0);
        s.refused("21 it has one ahead of full", STATE, "most", 1, 0);
        s.refused("21 no holder ahead of full", STATE, "most", 3, 0);
        s.refused("21 n ahead of full", OUTSIDE, "most", 2, 65);
        s.refused("21 unknown ahead of full", UNKNOWN, "most", 4, 0);
    }

    private static void settleNothing() {
        Story s = with(ROOM, THING, THING);
        s.due("22 none has a set", 0, "settle");
        s.does("among", 1, set(0));
        s.does("put", 1, 0);
        s.due("22 none is unsettled", 0, "settle");
        s.due("53 no sentence more", 2, "count", 3);
        s.fullOfSentences();
        s.due("22 none, though all sentences are told", 0, "settle");
    }

    private static void settleOfSeven() {
        Story s = with(ROOM);
        for (int t = 1; t <= 8; t++) {
            s.does("among", s.does("thing", THING, 0), set(0));
        }
        s.due("53 eight", 8, "count", 7);
        s.refused("22 more than 7", STATE, "settle");
        s.does("put", 8, 0);
        s.due("22 seven", 7, "settle");
        s.due("53 none", 0, "count", 7);
        for (int t = 1; t <= 7; t++) {
            s.due("13 settled", 0, "place", t, 0);
            s.due("52 by number", t, "sentence", 8 + t, 1);
        }
    }

    /** What the SETS have, multiplied: 3000 is let; 3003 is the least above it that sets of 63 holders can have. */
    private static void settleOf3000() {
        ways("22 15 x 10 x 10 x 2 = 3000", new int[] {15, 10, 10, 2}, 4);
        ways("22 60 x 50 = 3000", new int[] {60, 50}, 2);
        ways("22 13 x 11 x 7 x 3 = 3003", new int[] {13, 11, 7, 3}, STATE);
        ways("22 61 x 50 = 3050", new int[] {61, 50}, STATE);
        ways("22 60 x 50 x 2, though 3000 came first", new int[] {60, 50, 2}, STATE);
        ways("22 56 seven times, which is above an int", new int[] {56, 56, 56, 56, 56, 56, 56}, STATE);
        ways("22 2 to the 32nd, which is 0 as an int", new int[] {32, 32, 32, 32, 32, 32, 4}, STATE);

        Story s = with(ROOM, ROOM, THING, THING);
        s.does("among", 2, set(0, 1));
        s.does("among", 3, set(0, 1));
        s.does("put", 3, 1);
        s.due("22 only of the unsettled ones", 1, "settle");

        Story t = with(THING, THING, THING);
        for (int room = 3; room < 18; room++) {
            t.does("thing", ROOM, 0);
        }
        for (int thing = 0; thing < 3; thing++) {
            t.does("among", thing, 0x7fff << 3);
        }
        t.refused("22 15 x 15 x 15, the thing 0 among them", STATE, "settle");
        t.does("put", 0, 17);
        t.due("22 15 x 15 without it", 2, "settle");
    }

    private static void ways(String why, int[] sizes, int want) {
        Story s = story();
        for (int room = 0; room < 64 - sizes.length; room++) {
            s.does("thing", ROOM, 0);
        }
        for (int size : sizes) {
            s.does("among", s.does("thing", THING, 0), (1L << size) - 1);
        }
        if (want < 0) {
            s.refused(why, want, "settle");
        } else {
            s.due(why, want, "settle");
            s.due("13 the least", 0, "place", 63, 0);
        }
    }

    private static void settleFull() {
        Story s = with(ROOM, CARRIER, CARRIER, THING);
        s.does("among", 1, set(2));
        s.does("among", 2, set(1));
        s.sentences(299);
        s.refused("22 one sentence too many, ahead of no way", FULL, "settle");

        Story t = with(ROOM, THING, THING);
        t.does("among", 1, set(0));
        t.does("among", 2, set(0));
        t.sentences(299);
        t.refused("22 one sentence too many", FULL, "settle");
        t.due("13 none was taken", NONE, "place", 1, 0);

        Story u = with(ROOM, THING, THING);
        u.does("among", 1, set(0));
        u.does("among", 2, set(0));
        u.sentences(298);
        u.due("22 the last two sentences", 2, "settle");
        u.due("53 300", 300, "count", 3);
        u.due("52 the last one", 2, "sentence", 299, 1);

        Story w = with(ROOM);
        for (int i = 0; i < 8; i++) {
            w.does("among", w.does("thing", THING, 0), set(0));
        }
        w.fullOfSentences();
        w.refused("22 state ahead of full", STATE, "settle");

        Story v = with(CARRIER, CARRIER, THING);
        v.does("among", 0, set(1));
        v.does("among", 1, set(0));
        v.sentences(298);
        v.refused("22 no way, though there is room", NOWAY, "settle");
    }

    private static void settleWithin() {
        Story s = with(CARRIER, CARRIER, CARRIER, ROOM);
        s.does("among", 0, set(1));
        s.does("among", 1, set(2));
        s.does("among", 2, set(0));
        s.refused("22 a ring of three", NOWAY, "settle");

        Story t = with(CARRIER, CARRIER, CARRIER, ROOM);
        t.does("put", 0, 1);
        t.does("put", 1, 2);
        t.does("among", 2, set(0, 1));
        t.refused("22 in what lies in it, so on", NOWAY, "settle");

        Story u = with(CARRIER, CARRIER, CARRIER, ROOM);
        u.does("put", 0, 1);
        u.does("among", 1, set(2));
        u.does("among", 2, set(0, 1, 3));
        u.due("22 the only one that is no ring", 2, "settle");
        u.due("13 in the room", 3, "place", 2, 0);
        u.due("13 in the carrier", 2, "place", 1, 0);

        Story w = story();
        for (int i = 0; i < 64; i++) {
            w.does("thing", CARRIER, 0);
        }
        w.does("put", 0, 63);
        w.does("among", 63, set(0));
        w.refused("22 a ring of the first and the last thing", NOWAY, "settle");
    }

    private static void settleCrowded() {
        Story s = with(ROOM, ROOM, THING, THING, THING, BACKDROP);
        s.does("put", 5, 0);
        s.does("most", 0, 2);
        s.does("put", 2, 0);
        s.does("among", 3, set(0, 1));
        s.does("among", 4, set(0, 1));
        s.due("22 settle", 2, "settle");
        s.due("13 as many as its most", 0, "place", 3, 0);
        s.due("13 no more", 1, "place", 4, 0);

        Story t = with(ROOM, THING, THING);
        t.does("most", 0, 1);
        t.does("among", 1, set(0));
        t.does("among", 2, set(0));
        t.refused("22 more than its most", NOWAY, "settle");

        Story u = with(ROOM, THING, BACKDROP);
        u.does("put", 2, 0);
        u.does("most", 0, 1);
        u.does("among", 1, set(0));
        u.due("22 backdrops do not count", 1, "settle");

        Story w = with(ROOM, THING);
        w.does("most", 0, 0);
        w.does("among", 1, set(0));
        w.refused("22 a most of 0", NOWAY, "settle");

        Story v = with(ROOM, ROOM, THING, THING);
        v.does("most", 0, 1);
        v.does("among", 2, set(0, 1));
        v.does("among", 3, set(0));
        v.due("22 the one makes place for the other", 2, "settle");
        v.due("13 the one", 1, "place", 2, 0);
        v.due("13 the other", 0, "place", 3, 0);
        v.refused("7 now it has as many", against(0), "put", v.does("thing", THING, 0), 0);

        Story x = with(ROOM, ROOM, ROOM, ROOM, THING, THING);
        x.does("most", 2, 1);
        x.does("among", 4, set(2, 3));
        x.does("among", 5, set(2));
        x.due("22 the one makes place for the other, not in the holder 0", 2, "settle");
        x.due("13 the one, not in the holder 0", 3, "place", 4, 0);
        x.due("13 the other, not in the holder 0", 2, "place", 5, 0);
        x.due("7 the holder 0 has none", 5, "put", x.does("thing", THING, 0), 0);
        x.refused("21 the one behind the first 0", against(5), "most", 0, 0);
    }

    private static void settlePairs() {
        Story s = with(ROOM, ROOM, THING, THING, THING);
        s.does("put", 2, 1);
        s.does("pair", 2, 3, true);
        s.does("pair", 4, 3, false);
        s.does("among", 3, set(0, 1));
        s.does("among", 4, set(0, 1));
        s.due("22 settle", 2, "settle");
        s.due("13 with one that was put", 1, "place", 3, 0);
        s.due("13 not with one that is settled", 0, "place", 4, 0);

        Story w = with(THING, ROOM, ROOM, THING, THING, THING);
        w.does("put", 0, 1);
        w.does("pair", 3, 4, true);
        w.does("among", 5, set(2));
        w.due("22 a pair of others does not count, nor that the thing 0 lies elsewhere", 1, "settle");

        Story t = with(ROOM, ROOM, THING, THING);
        t.does("pair", 2, 3, true);
        t.does("among", 2, set(1));
        t.due("22 the other lies nowhere", 1, "settle");
        t.does("among", 3, set(0));
        t.refused("22 now it lies somewhere", NOWAY, "settle");

        Story u = with(ROOM, ROOM, THING, THING, THING);
        u.does("pair", 2, 3, false);
        u.does("pair", 3, 4, false);
        u.does("pair", 4, 2, false);
        u.does("among", 2, set(0, 1));
        u.does("among", 3, set(0, 1));
        u.does("among", 4, set(0, 1));
        u.refused("22 three in two", NOWAY, "settle");
    }

    /** The lesser holder for the least thing for which two ways are unlike, even if all others fare worse. */
    private static void settleLeast() {
        Story s = with(ROOM, ROOM, ROOM, THING, THING, THING);
        s.does("most", 0, 1);
        s.does("pair", 4, 5, true);
        s.does("among", 5, set(0, 2));
        s.does("among", 4, set(0, 2));
        s.does("among", 3, set(0, 1));
        s.due("22 settle", 3, "settle");
        s.due("13 the least thing has the lesser", 0, "place", 3, 0);
        s.due("13 the others the greater", 2, "place", 4, 0);
        s.due("13 both", 2, "place", 5, 0);
        s.due("52 a sentence as put", 0, "sentence", 5, 0);
        s.due("52 by number, not as told", 3, "sentence", 5, 1);
        s.due("52 the holder", 0, "sentence", 5, 2);
        s.due("52 the next", 4, "sentence", 6, 1);
        s.due("52 its holder", 2, "sentence", 6, 2);
        s.due("52 the last", 5, "sentence", 7, 1);

        Story t = with(ROOM, ROOM, THING, THING);
        t.does("pair", 2, 3, false);
        t.does("among", 2, set(0, 1));
        t.does("among", 3, set(0));
        t.due("22 back from what came first", 2, "settle");
        t.due("13 the only way", 1, "place", 2, 0);
    }

    private static void set() {
        Story s = with(ROOM, ROOM, THING);
        s.due("23 without", 0, "set", 2);
        s.due("23 a room has none", 0, "set", 0);
        s.due("23 unknown", 0, "set", 3);
        s.due("23 below 0", 0, "set", -1);
        s.due("23 the least", 0, "set", LEAST);
        s.due("23 the greatest", 0, "set", GREATEST);
        s.does("among", 2, set(0, 1));
        s.due("23 its set", set(0, 1), "set", 2);
        s.does("settle");
        s.due("23 what was told stays", set(0, 1), "set", 2);
    }
}
