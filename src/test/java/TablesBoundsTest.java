/** The boundary cases of the promises 41 to 48. */
public final class TablesBoundsTest extends Bounds {
    public static void main(String[] args) {
        table();
        digits();
        tableFull();
        cells();
        blanks();
        choose();
        chooseRefusals();
        rankRefusals();
        rankByValues();
        rankOfBlanks();
        rankOfEachLane();
        total();
        mean();
        due.end();
    }

    private static void table() {
        Story s = story();
        s.refused("41 no rows", OUTSIDE, "table", 0, 1, 0);
        s.refused("41 rows below 0", OUTSIDE, "table", -1, 1, 0);
        s.refused("41 more than 16 rows", OUTSIDE, "table", 17, 1, 0);
        s.refused("41 the least rows", OUTSIDE, "table", LEAST, 1, 0);
        s.refused("41 the greatest rows", OUTSIDE, "table", GREATEST, 1, 0);
        s.refused("41 no columns", OUTSIDE, "table", 1, 0, 0);
        s.refused("41 columns below 0", OUTSIDE, "table", 1, -1, 0);
        s.refused("41 more than 5 columns", OUTSIDE, "table", 1, 6, 0);
        s.refused("41 the greatest columns", OUTSIDE, "table", 1, GREATEST, 0);
        s.due("41 1 row, 1 column", 0, "table", 1, 1, 0);
        s.due("41 16 rows, 5 columns", 1, "table", 16, 5, 0);
        s.due("42 its only cell", 1, "fill", 0, 0, 0, 1);
        s.due("42 its last cell", 1, "fill", 1, 15, 4, 1);
    }

    private static void digits() {
        Story s = story();
        for (int digit = 8; digit < 10; digit++) {
            s.refused("41 a digit above 7", OUTSIDE, "table", 1, 1, digit);
            s.refused("41 the lowest digit above 7", OUTSIDE, "table", 1, 5, 70000 + digit);
            s.refused("41 the highest digit above 7", OUTSIDE, "table", 1, 5, 10000 * digit);
            s.refused("41 a digit between above 7", OUTSIDE, "table", 1, 3, 10 * digit);
        }
        s.refused("41 one digit more, 1 column", OUTSIDE, "table", 1, 1, 10);
        s.refused("41 one digit more, 2 columns", OUTSIDE, "table", 1, 2, 100);
        s.refused("41 one digit more, 5 columns", OUTSIDE, "table", 1, 5, 100000);
        s.refused("41 the greatest number", OUTSIDE, "table", 1, 5, GREATEST);
        s.refused("41 below 0", OUTSIDE, "table", 1, 1, -1);
        s.refused("41 below 0, as many digits", OUTSIDE, "table", 1, 2, -10);
        s.refused("41 the least number", OUTSIDE, "table", 1, 5, LEAST);
        s.due("41 all digits 7", 0, "table", 1, 5, 77777);
        s.due("41 one digit 7", 1, "table", 1, 1, 7);
        s.due("41 the column 0 is the lowest digit", 2, "table", 1, 2, 15);
        s.does("fill", 2, 0, 0, 300);
        s.does("fill", 2, 0, 1, 300);
        s.due("41 the lowest: longs", 300, "read", 2, 0, 0);
        s.due("41 the next: bytes", 44, "read", 2, 0, 1);
        s.due("41 fewer digits", 3, "table", 1, 3, 5);
        s.does("fill", 3, 0, 2, 300);
        s.due("41 fewer digits: truths", 1, "read", 3, 0, 2);
    }

    private static void tableFull() {
        Story s = story();
        for (int n = 0; n < 5; n++) {
            s.does("table", 1, 1, n);
        }
        s.due("41 the last one", 5, "table", 2, 2, 45);
        s.refused("41 tables are 0 .. 5", FULL, "table", 1, 1, 0);
        s.refused("41 rows ahead of full", OUTSIDE, "table", 0, 1, 0);
        s.refused("41 columns ahead of full", OUTSIDE, "table", 1, 6, 0);
        s.refused("41 a digit ahead of full", OUTSIDE, "table", 1, 1, 8);
        s.refused("41 more digits ahead of full", OUTSIDE, "table", 1, 1, 10);
        s.due("53 six", 6, "count", 6);
        s.due("42 in the last one", 1, "fill", 5, 1, 1, 7);
        s.refused("42 there is no 6", UNKNOWN, "fill", 6, 0, 0, 7);
    }

    /** fill(), blank() and read() name the same refusals. */
    private static void cells() {
        Story s = story();
        s.does("table", 3, 2, 54);
        s.does("fill", 0, 2, 1, 7);
        int[][] none = {{-1, 0}, {3, 0}, {0, -1}, {0, 2}, {LEAST, 0}, {GREATEST, 0}, {0, LEAST}, {0, GREATEST}, {15, 4}};
        s.refused("42 no such table", UNKNOWN, "fill", 1, 0, 0, 1);
        s.refused("42 a table below 0", UNKNOWN, "fill", -1, 0, 0, 1);
        s.refused("42 the table ahead of the row", UNKNOWN, "fill", 1, 3, 0, 1);
        s.refused("43 no such table", UNKNOWN, "blank", 1, 0, 0);
        s.refused("43 a table below 0", UNKNOWN, "blank", -1, 0, 0);
        s.refused("43 the table ahead of the row", UNKNOWN, "blank", 1, 3, 0);
        s.refused("44 no such table", UNKNOWN, "read", 1, 0, 0);
        s.refused("44 a table below 0", UNKNOWN, "read", -1, 0, 0);
        s.refused("44 the table ahead of the row", UNKNOWN, "read", 1, 3, 0);
        for (int[] cell : none) {
            s.refused("42 no such row, column", INDEX, "fill", 0, cell[0], cell[1], 1);
            s.refused("43 no such row, column", INDEX, "blank", 0, cell[0], cell[1]);
            s.refused("44 no such row, column", INDEX, "read", 0, cell[0], cell[1]);
        }
        s.refused("44 it is blank", NULL, "read", 0, 0, 0);
        s.refused("44 it is blank, the last row", NULL, "read", 0, 2, 0);
        s.due("42 the first cell", 1, "fill", 0, 0, 0, -1);
        s.due("44 the first cell", -1, "read", 0, 0, 0);
        s.due("44 the last cell", 7, "read", 0, 2, 1);
    }

    private static void blanks() {
        Story s = story();
        s.does("table", 2, 1, 5);
        s.due("43 blank at first", 0, "blank", 0, 1, 0);
        s.does("fill", 0, 1, 0, 0);
        s.due("44 a value of 0 is no blank", 0, "read", 0, 1, 0);
        s.due("43 it was not", 1, "blank", 0, 1, 0);
        s.due("43 it was", 0, "blank", 0, 1, 0);
        s.refused("44 blank again", NULL, "read", 0, 1, 0);
        s.does("fill", 0, 1, 0, 9);
        s.due("42 filled again", 9, "read", 0, 1, 0);
        s.due("42 over what it held", 1, "fill", 0, 1, 0, 8);
        s.due("44 over what it held", 8, "read", 0, 1, 0);
        s.due("43 the other stays blank", 0, "blank", 0, 0, 0);
    }

    private static void choose() {
        Story s = story();
        s.does("table", 16, 2, 15);
        s.due("45 all blank", NONE, "choose", 0, 0, 0, 0);
        s.does("fill", 0, 0, 0, 5);
        s.does("fill", 0, 15, 0, 5);
        s.due("45 the first row", 0, "choose", 0, 0, 5, 0);
        s.due("45 from the next one on", 15, "choose", 0, 0, 5, 1);
        s.due("45 the last row, from itself on", 15, "choose", 0, 0, 5, 15);
        s.due("45 another number", NONE, "choose", 0, 0, 4, 0);
        s.due("45 the other column", NONE, "choose", 0, 1, 5, 0);
        s.does("fill", 0, 3, 1, 261);
        s.due("45 what the cell tells", 3, "choose", 0, 1, 5, 0);
        s.due("45 not what came into it", NONE, "choose", 0, 1, 261, 0);
        s.does("blank", 0, 0, 0);
        s.due("45 one that is blank again", 15, "choose", 0, 0, 5, 0);
        s.does("fill", 0, 2, 0, 0);
        s.due("45 a value of 0", 2, "choose", 0, 0, 0, 0);
        s.does("fill", 0, 4, 0, Long.MIN_VALUE);
        s.due("45 the least long", 4, "choose", 0, 0, Long.MIN_VALUE, 0);
        s.does("fill", 0, 5, 0, NONE);
        s.due("45 a value of -9", 5, "choose", 0, 0, NONE, 0);
    }

    private static void chooseRefusals() {
        Story s = story();
        s.does("table", 2, 2, 55);
        s.does("fill", 0, 1, 1, 5);
        s.refused("45 no such table", UNKNOWN, "choose", 1, 0, 5, 0);
        s.refused("45 a table below 0", UNKNOWN, "choose", -1, 0, 5, 0);
        s.refused("45 from below 0", OUTSIDE, "choose", 0, 1, 5, -1);
        s.refused("45 from above 15", OUTSIDE, "choose", 0, 1, 5, 16);
        s.refused("45 a column below 0", INDEX, "choose", 0, -1, 5, 0);
        s.refused("45 a column behind the last", INDEX, "choose", 0, 2, 5, 0);
        s.refused("45 the table ahead of from", UNKNOWN, "choose", 1, 0, 5, 16);
        s.refused("45 the table ahead of the column", UNKNOWN, "choose", 1, 2, 5, 0);
        s.refused("45 from ahead of the column", OUTSIDE, "choose", 0, 2, 5, 16);
        s.refused("45 from below 0 ahead of the column", OUTSIDE, "choose", 0, -1, 5, -1);
        s.due("45 from the last row", 1, "choose", 0, 1, 5, 1);
        s.due("45 from behind the last row, but 15 at most", NONE, "choose", 0, 1, 5, 2);
        s.due("45 from 15", NONE, "choose", 0, 1, 5, 15);
    }

    private static void rankRefusals() {
        Story s = story();
        s.does("table", 3, 2, 55);
        for (int row = 0; row < 3; row++) {
            s.does("fill", 0, row, 0, -row);
            s.does("fill", 0, row, 1, row);
        }
        for (String name : new String[] {"total", "mean"}) {
            s.refused("no such table", UNKNOWN, name, 1, 0);
            s.refused("a table below 0", UNKNOWN, name, -1, 0);
            s.refused("the table ahead of the column", UNKNOWN, name, 1, 2);
            s.refused("a column below 0", INDEX, name, 0, -1);
            s.refused("a column behind the last", INDEX, name, 0, 2);
            s.refused("the greatest column", INDEX, name, 0, GREATEST);
        }
        s.refused("46 no such table", UNKNOWN, "rank", 1, 0, false);
        s.refused("46 a table below 0", UNKNOWN, "rank", -1, 0, false);
        s.refused("46 the table ahead of the column", UNKNOWN, "rank", 1, 2, true);
        s.refused("46 a column below 0", INDEX, "rank", 0, -1, false);
        s.refused("46 a column behind the last", INDEX, "rank", 0, 2, true);
        s.refused("46 the least column", INDEX, "rank", 0, LEAST, true);
        s.due("46 the last column, as they are", 0, "rank", 0, 1, false);
        s.due("46 the last column, falling", 2, "rank", 0, 1, true);
        s.due("46 the middle one stays", 1, "read", 0, 1, 1);
    }

    /** Ranks rows whose column 0 holds these values (null: blank); column 1 tells where each row was. */
    private static void ranked(String why, int lane, Long[] values, boolean falling, int moved, int... order) {
        Story s = story();
        s.does("table", values.length, 2, 40 + lane);
        for (int row = 0; row < values.length; row++) {
            if (values[row] != null) {
                s.does("fill", 0, row, 0, values[row]);
            }
            s.does("fill", 0, row, 1, row);
        }
        s.due(why, moved, "rank", 0, 0, falling);
        for (int row = 0; row < values.length; row++) {
            s.due(why + ", row " + row, order[row], "read", 0, row, 1);
        }
        s.due(why + ", once more", 0, "rank", 0, 0, falling);
    }

    private static void rankByValues() {
        ranked("46 one row", 5, new Long[] {5L}, false, 0, 0);
        ranked("46 rising already", 5, new Long[] {1L, 2L, 3L}, false, 0, 0, 1, 2);
        ranked("46 falling already", 5, new Long[] {3L, 2L, 1L}, true, 0, 0, 1, 2);
        ranked("46 rising", 5, new Long[] {3L, 1L, 2L}, false, 3, 1, 2, 0);
        ranked("46 falling", 5, new Long[] {3L, 1L, 2L}, true, 2, 0, 2, 1);
        ranked("46 alike stay as they were, rising", 5, new Long[] {2L, 1L, 2L, 1L}, false, 4, 1, 3, 0, 2);
        ranked("46 alike stay as they were, falling", 5, new Long[] {1L, 2L, 1L, 2L}, true, 4, 1, 3, 0, 2);
        ranked("46 all alike, falling", 5, new Long[] {4L, 4L, 4L}, true, 0, 0, 1, 2);
        ranked("46 the least and the greatest long", 5,
                new Long[] {Long.MAX_VALUE, 0L, Long.MIN_VALUE, -1L}, false, 4, 2, 3, 1, 0);
        ranked("46 the same, falling", 5,
                new Long[] {Long.MAX_VALUE, 0L, Long.MIN_VALUE, -1L}, true, 2, 0, 1, 3, 2);
        Long[] many = new Long[16];
        int[] turned = new int[16];
        for (int row = 0; row < 16; row++) {
            many[row] = (long) -row;
            turned[row] = 15 - row;
        }
        ranked("46 16 rows", 5, many, false, 16, turned);
    }

    private static void rankOfBlanks() {
        ranked("46 all blank", 5, new Long[] {null, null}, false, 0, 0, 1);
        ranked("46 a blank last, rising", 5, new Long[] {null, 1L}, false, 2, 1, 0);
        ranked("46 a blank last, falling", 5, new Long[] {null, 1L}, true, 2, 1, 0);
        ranked("46 blanks as they were", 5, new Long[] {null, 5L, null, -5L, null}, false, 3, 3, 1, 0, 2, 4);
        ranked("46 blanks as they were, falling", 5, new Long[] {null, 5L, null, -5L, null}, true, 4, 1, 3, 0, 2, 4);
        ranked("46 a blank is no 0", 5, new Long[] {null, 0L, 1L, -1L}, false, 2, 3, 1, 2, 0);

        Story s = story();
        s.does("table", 2, 2, 55);
        s.does("fill", 0, 0, 0, 2);
        s.does("fill", 0, 1, 0, 1);
        s.does("fill", 0, 0, 1, 7);
        s.due("46 whole rows", 2, "rank", 0, 0, false);
        s.refused("46 a blank comes along", NULL, "read", 0, 0, 1);
        s.due("46 a value comes along", 7, "read", 0, 1, 1);

        Story t = story();
        t.does("table", 16, 5, 55555);
        for (int row = 0; row < 16; row++) {
            for (int column = 0; column < 5; column++) {
                t.does("fill", 0, row, column, 100 * column - row);
            }
        }
        t.due("46 16 rows of 5 columns", 16, "rank", 0, 4, false);
        for (int row = 0; row < 16; row++) {
            for (int column = 0; column < 5; column++) {
                t.due("46 each cell of them", 100 * column + row - 15, "read", 0, row, column);
            }
        }
        t.due("47 of 16 rows", -120, "total", 0, 0);
        t.due("48 of 16 rows", -7, "mean", 0, 0);
    }

    private static void rankOfEachLane() {
        ranked("46 truths, no first", 0, new Long[] {7L, 0L, -1L, 0L}, false, 4, 1, 3, 0, 2);
        ranked("46 truths, yes first", 0, new Long[] {0L, 7L, 0L, -1L}, true, 4, 1, 3, 0, 2);
        ranked("46 bytes", 1, new Long[] {127L, 128L, 0L}, false, 3, 1, 2, 0);
        ranked("46 shorts", 2, new Long[] {32767L, 32768L, 0L}, false, 3, 1, 2, 0);
        ranked("46 chars", 3, new Long[] {-1L, 32768L, 65536L}, false, 2, 2, 1, 0);
        ranked("46 ints", 4, new Long[] {1L << 31, 0L, -1L}, false, 2, 0, 2, 1);
        ranked("46 floats that are alike", 6, new Long[] {16777217L, 16777216L, -5L}, false, 3, 2, 0, 1);
        ranked("46 doubles that are alike", 7, new Long[] {9007199254740993L, 9007199254740992L, -5L}, true, 0, 0, 1, 2);
        ranked("46 floats at the ends", 6, new Long[] {Long.MAX_VALUE, 0L, Long.MIN_VALUE}, false, 2, 2, 1, 0);
    }

    private static void total() {
        Story s = story();
        s.does("table", 3, 3, 651);
        s.due("47 all blank", 0, "total", 0, 1);
        s.does("fill", 0, 1, 1, 5);
        s.due("47 blank ones are 0", 5, "total", 0, 1);
        s.does("fill", 0, 0, 1, Long.MAX_VALUE);
        s.due("47 it wraps", Long.MIN_VALUE + 4, "total", 0, 1);
        s.does("fill", 0, 2, 1, -5);
        s.due("47 it wraps back", Long.MAX_VALUE, "total", 0, 1);
        s.does("fill", 0, 0, 0, 127);
        s.does("fill", 0, 1, 0, 127);
        s.does("fill", 0, 2, 0, 129);
        s.due("47 of bytes as longs", 127, "total", 0, 0);
        s.does("fill", 0, 0, 2, Long.MAX_VALUE);
        s.does("fill", 0, 1, 2, Long.MAX_VALUE);
        s.due("47 of floats as longs, which wrap", -2, "total", 0, 2);
        s.does("fill", 0, 2, 2, 16777217);
        s.due("47 of floats as they tell", 16777214, "total", 0, 2);
        s.does("blank", 0, 0, 1);
        s.due("47 blank again", 0, "total", 0, 1);
    }

    private static void mean() {
        Story s = story();
        s.does("table", 4, 1, 5);
        s.refused("48 all blank", QUOTIENT, "mean", 0, 0);
        s.does("fill", 0, 3, 0, 0);
        s.due("48 one that is 0", 0, "mean", 0, 0);
        s.does("fill", 0, 0, 0, 7);
        s.due("48 cut", 3, "mean", 0, 0);
        s.does("fill", 0, 0, 0, -7);
        s.due("48 cut toward 0", -3, "mean", 0, 0);
        s.does("fill", 0, 1, 0, 1);
        s.due("48 by three", -2, "mean", 0, 0);
        s.does("fill", 0, 0, 0, Long.MAX_VALUE);
        s.does("fill", 0, 1, 0, 1);
        s.due("48 of what wraps", Long.MIN_VALUE / 3, "mean", 0, 0);
        s.does("blank", 0, 0, 0);
        s.does("blank", 0, 1, 0);
        s.does("blank", 0, 3, 0);
        s.refused("48 all blank again", QUOTIENT, "mean", 0, 0);
        s.does("fill", 0, 2, 0, Long.MIN_VALUE);
        s.due("48 the least long", Long.MIN_VALUE, "mean", 0, 0);
    }
}
