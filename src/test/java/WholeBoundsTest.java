/** The boundary cases of the promises 49 to 55. */
public final class WholeBoundsTest extends Bounds {
    public static void main(String[] args) {
        makeState();
        makeLeast();
        makeGreatest();
        makeWords();
        makeCouples();
        makeAnew();
        word();
        digest();
        sentenceOfEachSort();
        sentenceRefusals();
        sentencesFull();
        count();
        faultOfEach();
        faultStays();
        clear();
        clearOfAll();
        clearOfSentences();
        clearOfCounts();
        due.end();
    }

    private static void makeState() {
        Story s = story();
        s.refused("49 there is no thing", STATE, "make");
        for (int base = 0; base < 6; base++) {
            if (base != ROOM) {
                s.does("thing", base, 0);
            }
        }
        s.refused("49 there is no room", STATE, "make");
        s.does("thing", ROOM, 0);
        s.does("among", 0, set(5));
        s.refused("49 a thing is unsettled", STATE, "make");
        s.does("put", 0, 5);
        s.due("49 none is unsettled", 2 + 6 * 3 + 8, "make");

        Story t = story();
        t.does("thing", t.does("kind", ROOM), 0);
        t.due("49 a kind under room is enough", 2 + 3 + 8, "make");
        t.does("clear");
        t.refused("49 no room is left of those ahead of clear", STATE, "make");

        Story u = story();
        for (int i = 0; i < 64; i++) {
            u.does("thing", CARRIER, 0);
        }
        u.refused("49 64 things, but no room", STATE, "make");
    }

    private static void makeLeast() {
        Story s = with(ROOM);
        s.due("49 one room", 13, "make");
        int[] words = {6, 1, ROOM, NONE, 0, NONE, NONE, NONE, NONE, NONE, NONE, NONE, NONE};
        for (int i = 0; i < words.length; i++) {
            s.due("50 one room, word " + i, words[i], "word", i);
        }
    }

    private static void makeGreatest() {
        Story s = story();
        while (s.does("count", 0) < 24) {
            s.does("kind", ROOM);
        }
        for (int t = 0; t < 64; t++) {
            s.does("thing", t < 63 ? 23 : ROOM, 1000);
        }
        for (int p = 0; p < 12; p++) {
            s.does("property", p < 11 ? THING : ROOM, 8, 0);
        }
        for (int r = 0; r < 8; r++) {
            s.does("relation", r < 7 ? 3 : 0);
        }
        s.does("relate", 7, 0, 63);
        int n = 2 + 64 * 15 + 64 * 8 + 8 * 2;
        s.due("49 all there can be", n, "make");
        s.due("53 words", n, "count", 8);
        s.due("50 kinds", 24, "word", 0);
        s.due("50 things", 64, "word", 1);
        s.due("50 the last thing's kind", ROOM, "word", 2 + 63 * 15);
        s.due("50 the last form", 0, "word", n - 2);
        s.due("50 the last word", 1, "word", n - 1);
        s.due("50 none behind", NONE, "word", n);
    }

    private static void makeWords() {
        Story s = with(ROOM, THING, BACKDROP, ROOM, DOOR);
        int p = s.does("property", ROOM, 5, 0);
        int q = s.does("property", THING, 8, 0);
        int r = s.does("property", THING, 5, 0);
        s.does("put", 2, 3);
        s.does("put", 2, 0);
        s.does("put", 1, 0);
        s.does("give", 0, p, (7L << 32) - 1);
        s.does("usual", ROOM, p, 1L << 32);
        s.does("usual", THING, q, 4);
        s.does("give", 1, q, NONE);
        s.does("usual", BACKDROP, r, Long.MIN_VALUE + 5);
        s.does("exit", 0, 0, 3);
        s.does("door", 4, 0, 6, 3);
        s.does("exit", 0, 3, NONE);
        int[] words = {6, 5,
            ROOM, NONE, 0, -1, 4, 0,
            THING, 0, 0, NONE, 0,
            BACKDROP, 3, 0, 4, 5,
            ROOM, NONE, 0, 0, 4, 0,
            DOOR, NONE, 0, 4, 0,
            3, NONE, NONE, NONE, NONE, NONE, 3, NONE,
            NONE, 0, NONE, NONE, NONE, NONE, NONE, 0};
        s.due("49 how many", words.length, "make");
        for (int i = 0; i < words.length; i++) {
            s.due("50 word " + i, words[i], "word", i);
        }
    }

    private static void makeCouples() {
        int[] couples = {2, 2, 2, 2, 4, 6};
        Story s = with(ROOM, THING, THING);
        for (int form = 0; form < 6; form++) {
            s.does("relation", form);
            s.does("relate", form, 0, 1);
            s.does("relate", form, 1, 2);
        }
        s.does("relation", 5);
        s.does("relation", 3);
        int n = s.does("make");
        for (int form = 0; form < 6; form++) {
            s.due("49 its form", form, "word", n - 16 + 2 * form);
            s.due("49 its couples", couples[form], "word", n - 15 + 2 * form);
        }
        s.due("49 a relation of groups without any", 0, "word", n - 3);
        s.due("49 a relation without any", 0, "word", n - 1);
    }

    private static void makeAnew() {
        Story s = with(ROOM, THING);
        s.does("make");
        s.due("53 words", 16, "count", 8);
        s.does("thing", THING, 4);
        s.due("53 not of themselves", 16, "count", 8);
        s.due("50 not of themselves", 2, "word", 1);
        s.does("among", 2, set(0));
        s.refused("49 a refused one leaves them", STATE, "make");
        s.due("50 they are left", 2, "word", 1);
        s.does("settle");
        s.due("49 anew", 19, "make");
        s.due("50 anew", 3, "word", 1);
        s.due("49 the same again", 19, "make");
        s.does("clear");
        s.does("thing", ROOM, 0);
        s.due("49 fewer", 13, "make");
        s.due("50 none behind the fewer", NONE, "word", 13);
    }

    private static void word() {
        Story s = with(ROOM);
        s.due("50 ahead of any", NONE, "word", 0);
        s.does("make");
        s.due("50 the first", 6, "word", 0);
        s.due("50 below 0", NONE, "word", -1);
        s.due("50 the least", NONE, "word", LEAST);
        s.due("50 behind the last", NONE, "word", 13);
        s.due("50 the greatest", NONE, "word", GREATEST);
    }

    private static void digest() {
        Story s = with(ROOM);
        s.due("51 17 at first", 17, "digest");
        s.does("make");
        long h = 17;
        int[] words = {6, 1, ROOM, NONE, 0, NONE, NONE, NONE, NONE, NONE, NONE, NONE, NONE};
        for (int word : words) {
            h = 31 * h + word;
        }
        s.due("51 it wraps", h, "digest");
        s.due("51 the same again", h, "digest");
        s.does("thing", ROOM, 0);
        s.due("51 of the words as they were made", h, "digest");
        s.does("clear");
        s.due("51 17 again", 17, "digest");
    }

    private static void sentenceOfEachSort() {
        Story s = with(ROOM, ROOM, THING, CARRIER, DOOR, THING);
        int p = s.does("property", THING, 5, 0);
        int r = s.does("relation", 3);
        s.does("put", 2, 1);
        s.does("bar", 2, 3);
        s.does("give", 3, p, 99);
        s.does("among", 3, set(0, 1));
        s.does("pair", 5, 2, true);
        s.does("most", 3, 64);
        s.does("relate", r, 5, 4);
        s.does("deny", r, 3, 2);
        s.does("exit", 1, 7, NONE);
        s.does("door", 4, 0, 3, 1);
        s.does("settle");
        int[][] told = {{0, 2, 1}, {1, 2, 3}, {2, 3, p}, {3, 3, 3}, {4, 5, 2}, {5, 3, 64}, {6, r, 5}, {7, r, 3},
            {8, 1, 7}, {9, 4, 0}, {0, 3, 0}};
        for (int i = 0; i < told.length; i++) {
            for (int what = 0; what < 3; what++) {
                s.due("52 sentence " + i, told[i][what], "sentence", i, what);
            }
        }
    }

    private static void sentenceRefusals() {
        Story s = with(ROOM, THING);
        s.refused("52 there is none", UNKNOWN, "sentence", 0, 0);
        s.does("put", 1, 0);
        s.refused("52 behind the last", UNKNOWN, "sentence", 1, 0);
        s.refused("52 below 0", UNKNOWN, "sentence", -1, 0);
        s.refused("52 the least", UNKNOWN, "sentence", LEAST, 0);
        s.refused("52 what below 0", OUTSIDE, "sentence", 0, -1);
        s.refused("52 what above 2", OUTSIDE, "sentence", 0, 3);
        s.refused("52 the least what", OUTSIDE, "sentence", 0, LEAST);
        s.refused("52 the sentence ahead of what", UNKNOWN, "sentence", 1, 3);
        s.due("52 what 2", 0, "sentence", 0, 2);
    }

    private static void sentencesFull() {
        Story s = with(ROOM, THING);
        s.sentences(299);
        s.refused("52 there is no 299 yet", UNKNOWN, "sentence", 299, 0);
        s.does("put", 1, 0);
        s.due("52 the last one", 0, "sentence", 299, 0);
        s.refused("7 300 at most", FULL, "bar", 1, 0);
        s.refused("52 there is no 300", UNKNOWN, "sentence", 300, 0);
        s.due("53 300", 300, "count", 3);
        s.due("52 what was told stays", 2, "sentence", 0, 0);
    }

    private static void count() {
        Story s = with(ROOM, THING, THING, THING);
        s.refused("53 below 0", OUTSIDE, "count", -1);
        s.refused("53 above 9", OUTSIDE, "count", 10);
        s.refused("53 the least", OUTSIDE, "count", LEAST);
        s.refused("53 the greatest", OUTSIDE, "count", GREATEST);
        s.does("kind", 0);
        s.does("property", 0, 0, 0);
        s.does("property", 0, 0, 0);
        s.does("make");
        for (int i = 0; i < 5; i++) {
            s.does("relation", i);
        }
        for (int i = 0; i < 6; i++) {
            s.does("shelf", 0, i);
        }
        s.does("table", 1, 1, 0);
        s.does("among", 1, set(0));
        s.does("among", 2, set(0));
        s.does("pair", 1, 2, true);
        int[] counts = {7, 2, 4, 3, 5, 6, 1, 2, 2 + 4 * 3 + 2 * 4 + 8, 1};
        for (int what = 0; what < 10; what++) {
            s.due("53 each", counts[what], "count", what);
        }
    }

    /** Each FAULT by its number, and the answer is -10 less that. */
    private static void faultOfEach() {
        Story s = with(ROOM, PERSON);
        int p = s.does("property", THING, 8, PERSON);
        s.due("54 ahead of any", 0, "fault");
        s.due("15 null", -11, "follow", 1, p, 0);
        s.due("54 null", 1, "fault");
        s.due("12 index", -12, "peek", p, 8, 64);
        s.due("54 index", 2, "fault");
        s.due("18 cast", -13, "open", 0, true);
        s.due("54 cast", 3, "fault");
        s.due("9 store", -14, "give", 0, p, 0);
        s.due("54 store", 4, "fault");
        s.due("36 size", -15, "shelf", 0, -1);
        s.due("54 size", 5, "fault");
        s.due("14 quotient", -16, "says", 1, 4);
        s.due("54 quotient", 6, "fault");
        s.due("15 null again", -11, "follow", 1, p, 0);
        s.due("54 the latest, though its number is less", 1, "fault");
    }

    /** What is refused or goes against a sentence is no FAULT; nor does what goes well end one. */
    private static void faultStays() {
        Story s = with(ROOM, ROOM, THING);
        s.due("18 cast", CAST, "open", 0, true);
        s.refused("7 unknown", UNKNOWN, "put", 3, 0);
        s.refused("6 outside", OUTSIDE, "thing", 0, -1);
        s.refused("7 state", STATE, "put", 0, 1);
        s.does("put", 2, 0);
        s.refused("7 against", against(0), "put", 2, 1);
        s.due("54 the latest fault still", 3, "fault");
        s.does("make");
        s.due("54 and still", 3, "fault");
        s.does("clear");
        s.due("54 as at first", 0, "fault");
    }

    private static void clear() {
        Story s = story();
        s.due("55 none", 0, "clear");
        s.does("thing", ROOM, 0);
        s.due("55 one", 1, "clear");
        s.due("55 none again", 0, "clear");
        for (int t = 0; t < 64; t++) {
            s.does("thing", ROOM, 0);
        }
        s.due("55 64", 64, "clear");
        s.due("6 from 0 on", 0, "thing", ROOM, 0);
    }

    /** Every row that there is is filled ahead of clear(): then all numbers are free again, and nothing is left. */
    private static void clearOfAll() {
        Story s = with(ROOM, ROOM, DOOR, CARRIER, PERSON, THING, THING);
        for (int kind = 6; kind < 24; kind++) {
            s.does("kind", CARRIER);
        }
        for (int p = 0; p < 12; p++) {
            s.does("property", THING, 8, 0);
            s.does("usual", THING, p, 1);
            s.does("give", 5, p, 1);
        }
        for (int r = 0; r < 8; r++) {
            s.does("relation", 5);
            s.does("relate", r, 0, 1);
            s.does("deny", r, 0, 2);
        }
        for (int i = 0; i < 10; i++) {
            s.does("shelf", 0, 16);
            s.does("stand", i, 0, 1);
        }
        for (int i = 0; i < 6; i++) {
            s.does("table", 16, 5, 55555);
            s.does("fill", i, 0, 0, 9);
        }
        s.does("put", 3, 0);
        s.does("bar", 5, 0);
        s.does("among", 5, set(1, 3));
        for (int i = 0; i < 16; i++) {
            s.does("pair", 5, 6, false);
        }
        s.does("most", 1, 0);
        s.does("exit", 0, 0, 1);
        s.does("door", 2, 0, 2, 1);
        s.does("open", 2, true);
        s.does("remark", 3, 0, 9);
        s.does("remark", 3, 1, 9);
        s.does("haul", 0, 0, 1, 0, 3);
        s.does("settle");
        s.does("make");
        s.due("18 cast", CAST, "open", 0, true);
        s.due("55 seven", 7, "clear");
        asNew(s);
    }

    private static void asNew(Story s) {
        for (int what = 0; what < 10; what++) {
            s.due("55 count", what == 0 ? 6 : 0, "count", what);
        }
        s.due("55 fault", 0, "fault");
        s.due("55 came", 0, "came");
        s.due("55 digest", 17, "digest");
        s.due("55 no kind", UNKNOWN, "is", 6, 0);
        int[] bases = {ROOM, ROOM, DOOR, CARRIER, PERSON, THING, THING};
        for (int t = 0; t < bases.length; t++) {
            s.due("55 thing", t, "thing", bases[t], 0);
        }
        for (int t = 0; t < bases.length; t++) {
            s.due("55 nowhere", NONE, "place", t, 0);
            s.due("55 no set", 0, "set", t);
            s.due("55 the mark", 0, "mark", t, 0);
        }
        s.due("55 the own mark", 0, "mark", 3, 1);
        s.due("55 not open", 0, "open", 2, false);
        s.due("55 not told", 0, "sort", 0, 0);
        s.due("55 not assumed", 0, "sort", 1, 1);
        s.due("55 no door", 0, "sort", 1, 3);
        s.due("55 kind", 6, "kind", ROOM);
        s.due("55 the kind's parent", 0, "is", 6, CARRIER);
        s.due("55 property", 0, "property", THING, 4, 0);
        s.due("55 no usual", 0, "value", 5, 0);
        s.due("55 not given", NONE, "given", 5, 0);
        s.due("55 no cell", 0, "peek", 0, 4, 5);
        s.due("55 relation", 0, "relation", 3);
        s.due("55 not related", 0, "related", 0, 0, 1);
        s.due("55 no group", 0, "related", 0, 0, 0);
        s.due("55 not denied", 0, "relate", 0, 0, 2);
        s.due("55 shelf", 0, "shelf", ROOM, 2);
        s.due("55 nothing stands", NONE, "stands", 0, 0);
        s.due("55 the shelf's length", INDEX, "stands", 0, 2);
        s.due("55 table", 0, "table", 2, 1, 1);
        s.due("55 blank", NULL, "read", 0, 0, 0);
        s.due("55 not barred, no set", 1, "put", 5, 0);
        s.due("55 no pair", 2, "put", 6, 0);
        s.due("55 no most", 3, "put", 3, 1);
        s.due("55 a pair may be told otherwise", 4, "pair", 5, 6, true);
        s.due("55 a most may be told", 5, "most", 1, 1);
        s.due("55 the door may be told", 6, "door", 2, 0, 2, 1);
    }

    /** The same numbers of sentences come again behind clear(), and none of those told ahead of it counts. */
    private static void clearOfSentences() {
        Story s = with(ROOM, ROOM, THING, THING);
        s.does("relation", 3);
        s.does("deny", 0, 2, 3);
        s.does("clear");
        again(s, 0);
        s.due("55 what was denied", 0, "relate", 0, 2, 3);
        s.does("clear");
        again(s, 0);
        s.due("55 what a had", 0, "relate", 0, 2, 0);
        s.does("clear");
        again(s, 3);
        s.due("55 what a had may be denied", 0, "deny", 0, 2, 0);
        s.does("clear");
        again(s, 3);
        s.due("55 what was denied may be so again", 0, "deny", 0, 2, 0);
        s.does("clear");
        again(s, 5);
        s.does("relate", 0, 0, 1);
        s.does("clear");
        again(s, 5);
        s.due("55 who was together", 0, "deny", 0, 0, 1);
        s.does("clear");
        again(s, 3);
        s.does("put", 2, 0);
        s.does("bar", 3, 0);
        s.does("clear");
        again(s, 3);
        s.due("55 what was put", 0, "bar", 2, 0);
        s.due("55 what was barred", 1, "put", 3, 0);
        s.due("55 only what was put since counts", 2, "most", 0, 1);
    }

    private static void again(Story s, int form) {
        for (int base : new int[] {ROOM, ROOM, THING, THING}) {
            s.does("thing", base, 0);
        }
        s.does("relation", form);
    }

    /** What was counted or barred ahead of clear() is not, behind it. */
    private static void clearOfCounts() {
        Story s = with(ROOM, ROOM, THING, THING);
        s.does("put", 2, 0);
        s.does("bar", 3, 0);
        s.does("among", 3, set(1));
        s.does("clear");
        s.does("thing", ROOM, 0);
        s.does("thing", ROOM, 0);
        s.does("thing", THING, 0);
        s.due("55 nothing is unsettled", 0, "settle");
        s.due("53 nothing is unsettled", 0, "count", 7);
        s.does("thing", THING, 0);
        s.due("55 one at most", 0, "most", 0, 1);
        s.due("55 it is the first there", 1, "put", 2, 0);
        s.due("55 it may be there", 2, "among", 3, set(0, 1));
        s.due("55 it is not barred there", set(0, 1), "set", 3);

        Story t = story();
        t.does("table", 16, 5, 55555);
        for (int row = 0; row < 16; row++) {
            for (int column = 0; column < 5; column++) {
                t.does("fill", 0, row, column, 1);
            }
        }
        t.does("clear");
        t.does("table", 16, 5, 0);
        for (int row = 0; row < 16; row++) {
            for (int column = 0; column < 5; column++) {
                t.due("55 each cell is blank", 0, "blank", 0, row, column);
            }
        }
    }
}
