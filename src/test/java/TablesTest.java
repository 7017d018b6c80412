/** Promises 41 to 48. */
public final class TablesTest {
    private static final int UNKNOWN = -1, OUTSIDE = -2, FULL = -4, NONE = -9;
    private static final Due due = new Due();

    public static void main(String[] args) {
        tables();
        cells();
        lanes();
        choose();
        rank();
        rankTruths();
        totals();
        due.end();
    }

    private static void tables() {
        WorldMake x = new WorldMake();
        due.is("41 rows", x.table(0, 1, 0), OUTSIDE);
        due.is("41 rows above", x.table(17, 1, 0), OUTSIDE);
        due.is("41 columns", x.table(1, 0, 0), OUTSIDE);
        due.is("41 columns above", x.table(1, 6, 0), OUTSIDE);
        due.is("41 digit", x.table(1, 2, 18), OUTSIDE);
        due.is("41 higher digit", x.table(1, 2, 91), OUTSIDE);
        due.is("41 more digits", x.table(1, 2, 100), OUTSIDE);
        due.is("41 below 0", x.table(1, 2, -1), OUTSIDE);
        due.is("41 least", x.table(1, 5, Integer.MIN_VALUE), OUTSIDE);
        due.is("41 as many as told", x.table(16, 5, 77777), 0);
        due.is("41 fewer digits", x.table(1, 5, 7), 1);
        for (int n = 2; n < 6; n++) {
            due.is("41 table", x.table(1, 1, 0), n);
        }
        due.is("41 outside ahead of full", x.table(1, 1, 8), OUTSIDE);
        due.is("41 full", x.table(1, 1, 0), FULL);
        due.is("53 tables", x.count(6), 6);
    }

    private static void cells() {
        WorldMake x = new WorldMake();
        int t = x.table(2, 2, 54);
        due.is("42 unknown", x.fill(1, 9, 9, 0), UNKNOWN);
        due.is("42 row", x.fill(t, 2, 0, 0), Due.INDEX);
        due.is("42 row below", x.fill(t, -1, 0, 0), Due.INDEX);
        due.is("42 column", x.fill(t, 0, 2, 0), Due.INDEX);
        due.is("42 column below", x.fill(t, 0, -1, 0), Due.INDEX);
        due.is("54 index", x.fault(), 2);
        due.is("44 blank", x.read(t, 1, 1), Due.NULL);
        due.is("54 null", x.fault(), 1);
        due.is("42 fill", x.fill(t, 1, 1, Long.MIN_VALUE), 1);
        due.is("44 read", x.read(t, 1, 1), Long.MIN_VALUE);
        due.is("42 again", x.fill(t, 1, 1, 0), 1);
        due.is("44 a 0 is not blank", x.read(t, 1, 1), 0);
        due.is("43 it was not", x.blank(t, 1, 1), 1);
        due.is("43 it was", x.blank(t, 1, 1), 0);
        due.is("44 blank again", x.read(t, 1, 1), Due.NULL);
        due.is("43 unknown", x.blank(-1, 0, 0), UNKNOWN);
        due.is("43 row", x.blank(t, 2, 0), Due.INDEX);
        due.is("43 column", x.blank(t, 0, 2), Due.INDEX);
        due.is("44 unknown", x.read(1, 0, 0), UNKNOWN);
        due.is("44 row", x.read(t, 2, 0), Due.INDEX);
        due.is("44 column", x.read(t, 0, -1), Due.INDEX);
    }

    private static void lanes() {
        WorldMake x = new WorldMake();
        int low = x.table(1, 5, 43210);
        int high = x.table(1, 3, 765);
        long v = -0x1234_5678_9abc_def1L;
        long[] told = {1, (byte) v, (short) v, (char) v, (int) v};
        for (int c = 0; c < 5; c++) {
            x.fill(low, 0, c, v);
            due.is("42 lane " + c, x.read(low, 0, c), told[c]);
        }
        long[] wide = {v, (long) (float) v, (long) (double) v};
        for (int c = 0; c < 3; c++) {
            x.fill(high, 0, c, v);
            due.is("42 lane " + (5 + c), x.read(high, 0, c), wide[c]);
        }
        x.fill(high, 0, 1, Long.MAX_VALUE);
        due.is("42 greatest float", x.read(high, 0, 1), Long.MAX_VALUE);
    }

    private static void choose() {
        WorldMake x = new WorldMake();
        int t = x.table(4, 2, 14);
        x.fill(t, 1, 0, 7);
        x.fill(t, 3, 0, 7);
        x.fill(t, 2, 1, 256);
        due.is("45 first", x.choose(t, 0, 7, 0), 1);
        due.is("45 from it", x.choose(t, 0, 7, 1), 1);
        due.is("45 behind it", x.choose(t, 0, 7, 2), 3);
        due.is("45 none", x.choose(t, 0, 8, 0), NONE);
        due.is("45 blank is not 0", x.choose(t, 0, 0, 0), NONE);
        due.is("45 as the cell tells", x.choose(t, 1, 0, 0), 2);
        due.is("45 v itself", x.choose(t, 1, 256, 0), NONE);
        due.is("45 beyond the rows", x.choose(t, 0, 7, 15), NONE);
        due.is("45 unknown", x.choose(1, 0, 7, 99), UNKNOWN);
        due.is("45 outside ahead of index", x.choose(t, 2, 7, 16), OUTSIDE);
        due.is("45 outside below", x.choose(t, 0, 7, -1), OUTSIDE);
        due.is("45 index", x.choose(t, 2, 7, 0), Due.INDEX);
        due.is("45 index below", x.choose(t, -1, 7, 0), Due.INDEX);
    }

    private static void rank() {
        WorldMake x = new WorldMake();
        int t = x.table(6, 2, 45);
        long[] keys = {5, Long.MIN_VALUE, 0, 5, Long.MAX_VALUE, -1};
        for (int row = 0; row < 6; row++) {
            if (row != 2) {
                x.fill(t, row, 0, keys[row]);
            }
            x.fill(t, row, 1, row);
        }
        x.blank(t, 4, 1);
        due.is("46 unknown", x.rank(1, 0, true), UNKNOWN);
        due.is("46 index", x.rank(t, 2, true), Due.INDEX);
        due.is("46 index below", x.rank(t, -1, true), Due.INDEX);
        due.is("46 rising", x.rank(t, 0, false), 4);
        long[] rising = {1, 5, 0, 3, Due.NULL, 2};
        for (int row = 0; row < 6; row++) {
            due.is("46 rising " + row, x.read(t, row, 1), rising[row]);
        }
        due.is("46 blank last", x.read(t, 5, 0), Due.NULL);
        due.is("46 again", x.rank(t, 0, false), 0);
        due.is("46 falling", x.rank(t, 0, true), 5);
        long[] falling = {Due.NULL, 0, 3, 5, 1, 2};
        for (int row = 0; row < 6; row++) {
            due.is("46 falling " + row, x.read(t, row, 1), falling[row]);
        }
        due.is("46 the greatest", x.read(t, 0, 0), Long.MAX_VALUE);
    }

    private static void rankTruths() {
        WorldMake x = new WorldMake();
        int t = x.table(4, 2, 40);
        for (int row = 0; row < 4; row++) {
            x.fill(t, row, 0, row % 2 == 0 ? 9 : 0);
            x.fill(t, row, 1, row);
        }
        due.is("46 no first", x.rank(t, 0, false), 4);
        int[] no = {1, 3, 0, 2};
        for (int row = 0; row < 4; row++) {
            due.is("46 no first " + row, x.read(t, row, 1), no[row]);
        }
        due.is("46 yes first", x.rank(t, 0, true), 4);
        int[] yes = {0, 2, 1, 3};
        for (int row = 0; row < 4; row++) {
            due.is("46 yes first " + row, x.read(t, row, 1), yes[row]);
        }
    }

    private static void totals() {
        WorldMake x = new WorldMake();
        int t = x.table(3, 3, 750);
        due.is("47 unknown", x.total(1, 0), UNKNOWN);
        due.is("47 index", x.total(t, 3), Due.INDEX);
        due.is("47 index below", x.total(t, -1), Due.INDEX);
        due.is("47 all blank", x.total(t, 0), 0);
        due.is("48 unknown", x.mean(-1, 0), UNKNOWN);
        due.is("48 index", x.mean(t, 3), Due.INDEX);
        due.is("48 quotient", x.mean(t, 0), Due.QUOTIENT);
        due.is("54 quotient", x.fault(), 6);
        x.fill(t, 0, 0, 4);
        x.fill(t, 1, 0, 4);
        x.fill(t, 2, 0, 0);
        due.is("47 truths", x.total(t, 0), 2);
        due.is("48 truths", x.mean(t, 0), 0);
        x.fill(t, 0, 1, Long.MAX_VALUE);
        x.fill(t, 1, 1, 2);
        due.is("47 wraps", x.total(t, 1), Long.MIN_VALUE + 1);
        due.is("48 wraps", x.mean(t, 1), (Long.MIN_VALUE + 1) / 2);
        x.fill(t, 0, 2, -4);
        x.fill(t, 2, 2, -3);
        due.is("48 cut toward 0", x.mean(t, 2), -3);
        x.blank(t, 0, 2);
        due.is("47 without the blank", x.total(t, 2), -3);
    }
}
