/** What the tests of the boundary cases share: the names of answers, and the list of those that are due. */
abstract class Bounds {
    static final int UNKNOWN = -1, OUTSIDE = -2, STATE = -3, FULL = -4, NOWAY = -5, NONE = -9;
    static final int NULL = -11, INDEX = -12, CAST = -13, STORE = -14, SIZE = -15, QUOTIENT = -16;
    static final int THING = 0, ROOM = 1, DOOR = 2, BACKDROP = 3, CARRIER = 4, PERSON = 5;
    static final int LEAST = Integer.MIN_VALUE, GREATEST = Integer.MAX_VALUE;

    static final Due due = new Due();

    static Story story() {
        return new Story(due);
    }

    /** A story that begins with things of these kinds, each of the size 0: their numbers are 0, 1, .. */
    static Story with(int... kinds) {
        Story s = story();
        for (int kind : kinds) {
            s.does("thing", kind, 0);
        }
        return s;
    }

    static int against(int sentence) {
        return Due.against(sentence);
    }

    /** The bits of these. */
    static long set(int... things) {
        long bits = 0;
        for (int thing : things) {
            bits |= 1L << thing;
        }
        return bits;
    }
}
