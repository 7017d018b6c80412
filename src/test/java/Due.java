/** Compares answers with what is due; a test ends with exit code 1 if one was not as due. */
final class Due {
    static final int NULL = -11, INDEX = -12, CAST = -13, STORE = -14, SIZE = -15, QUOTIENT = -16;

    private int wrong;
    private int asked;

    void is(String what, long got, long want) {
        asked++;
        if (got != want) {
            wrong++;
            System.out.println(what + " answered " + got + ", due is " + want);
        }
    }

    /** What a call answers that goes against a sentence. */
    static int against(int sentence) {
        return -100 - sentence;
    }

    void end() {
        System.out.println(asked + " answers, " + wrong + " not as due");
        if (wrong != 0) {
            System.exit(1);
        }
    }
}
