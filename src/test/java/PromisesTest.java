import java.util.NoSuchElementException;

/** Each promise by hand-made cases: ordinary inputs, the edges, and wrong inputs. */
public final class PromisesTest {
    private static final int LESS = 0;
    private static final int NOT_GREATER = 1;
    private static final int EQUAL = 2;
    private static final int NOT_LESS = 3;
    private static final int GREATER = 4;
    private static final int NOT_EQUAL = 5;

    private static final int[] BAD_COLUMNS = {-1, 4, Integer.MIN_VALUE, Integer.MAX_VALUE};

    private static int wrong = 0;

    private static void due(String what, long got, long want) {
        if (got != want) {
            wrong++;
            System.out.println(what + " answered " + got + ", due is " + want);
        }
    }

    private interface Call {
        void make();
    }

    /** The class of the exception must be the very one, not one below it. */
    private static void refused(String what, Class<?> want, Call call) {
        Class<?> got = null;
        try {
            call.make();
        } catch (RuntimeException e) {
            got = e.getClass();
        }
        if (got != want) {
            wrong++;
            System.out.println(what + " threw " + got + ", due is " + want);
        }
    }

    private static void badArgument(String what, Call call) {
        refused(what, IllegalArgumentException.class, call);
    }

    private static void outOfBounds(String what, Call call) {
        refused(what, IndexOutOfBoundsException.class, call);
    }

    private static void badState(String what, Call call) {
        refused(what, IllegalStateException.class, call);
    }

    /** Rows with the numbers 0, 1, .. in column 0, their remainders by 3 in 1, their half in 2, ten times them in 3. */
    private static ColumnHall counted(int rows) {
        ColumnHall hall = new ColumnHall();
        for (int i = 0; i < rows; i++) {
            hall.append(i, i % 3, i / 2, 10L * i);
        }
        return hall;
    }

    /** Rows with these cells in every column that they fit. */
    private static ColumnHall filled(long... cells) {
        ColumnHall hall = new ColumnHall();
        for (long cell : cells) {
            hall.append((int) cell, (int) cell, (int) cell, cell);
        }
        return hall;
    }

    private static void promise1NewObject() {
        ColumnHall hall = new ColumnHall();
        due("1: rows", hall.rows(), 0);
        due("1: chosen", hall.chosen(), 0);
        due("1: blocks", hall.blocks(), 0);
        due("1: conditions", hall.all(), 0);
        ColumnHall other = new ColumnHall();
        other.append(1, 2, 3, 4L);
        other.where(0, EQUAL, 1L);
        due("1: rows of another object", hall.rows(), 0);
        due("1: conditions of another object", hall.all(), 0);
    }

    private static void promise2Append() {
        ColumnHall hall = new ColumnHall();
        for (int i = 0; i < 128; i++) {
            due("2: append", hall.append(i, -i, 2 * i, 1L << (i % 64)), i);
        }
        badState("2: the 129th row", () -> hall.append(1, 1, 1, 1L));
        due("2: rows behind the refused one", hall.rows(), 128);
        due("2: the last row stays", hall.cell(127, 0), 127);
        hall.where(0, EQUAL, 5L);
        due("2: one taken", hall.purge(), 1);
        due("2: there is room again", hall.append(5, 0, 0, 0L), 127);
        badState("2: full again", () -> hall.append(1, 1, 1, 1L));
        hall.all();
        due("2: all taken", hall.purge(), 128);
        due("2: numbers start anew", hall.append(1, 1, 1, 1L), 0);
    }

    private static void promise3Rows() {
        ColumnHall hall = counted(17);
        due("3: rows", hall.rows(), 17);
        hall.where(0, LESS, 4L);
        due("3: rows don't ask conditions", hall.rows(), 17);
        hall.purge();
        due("3: rows behind purge", hall.rows(), 13);
    }

    private static void promise4Cell() {
        ColumnHall hall = new ColumnHall();
        hall.append(Integer.MIN_VALUE, Integer.MAX_VALUE, -1, Long.MIN_VALUE);
        hall.append(1, 2, 3, Long.MAX_VALUE);
        due("4: least int", hall.cell(0, 0), Integer.MIN_VALUE);
        due("4: greatest int", hall.cell(0, 1), Integer.MAX_VALUE);
        due("4: -1", hall.cell(0, 2), -1);
        due("4: least long", hall.cell(0, 3), Long.MIN_VALUE);
        due("4: second row", hall.cell(1, 2), 3);
        due("4: greatest long", hall.cell(1, 3), Long.MAX_VALUE);
        hall.where(0, EQUAL, 99L);
        due("4: also of rows that aren't chosen", hall.cell(1, 0), 1);
        for (int column : BAD_COLUMNS) {
            badArgument("4: column " + column, () -> hall.cell(0, column));
            badArgument("4: column before row " + column, () -> hall.cell(-1, column));
        }
        for (int row : new int[] {-1, 2, 127, 128, Integer.MIN_VALUE, Integer.MAX_VALUE}) {
            outOfBounds("4: row " + row, () -> hall.cell(row, 0));
        }
        ColumnHall packed = counted(33);
        due("4: in a full block", packed.cell(15, 3), 150);
        due("4: in the next one", packed.cell(16, 3), 160);
        due("4: in one that isn't full", packed.cell(32, 2), 16);
    }

    private static void promise5Where() {
        ColumnHall hall = counted(4);
        badArgument("5: op -1", () -> hall.where(0, -1, 0L));
        badArgument("5: op 6", () -> hall.where(0, 6, 0L));
        badArgument("5: least op", () -> hall.where(0, Integer.MIN_VALUE, 0L));
        badArgument("5: greatest op", () -> hall.where(0, Integer.MAX_VALUE, 0L));
        for (int column : BAD_COLUMNS) {
            badArgument("5: column " + column, () -> hall.where(column, 0, 0L));
        }
        due("5: refused ones don't count", hall.chosen(), 4);
        due("5: first", hall.where(0, NOT_LESS, 1L), 1);
        due("5: second, the same again", hall.where(0, NOT_LESS, 1L), 2);
        due("5: third", hall.where(3, NOT_EQUAL, 20L), 3);
        badState("5: fourth", () -> hall.where(0, LESS, 0L));
        badArgument("5: column before state", () -> hall.where(4, LESS, 0L));
        badArgument("5: op before state", () -> hall.where(0, 6, 0L));
        due("5: the fourth changed nothing", hall.chosen(), 2);
        due("5: three there were", hall.all(), 3);
    }

    private static long chosenBy(ColumnHall hall, int column, int op, long value) {
        hall.all();
        hall.where(column, op, value);
        return hall.chosen();
    }

    private static void promise5Ops() {
        ColumnHall hall = filled(1, 2, 2, 3, 3, 3);
        for (int column = 0; column < 4; column++) {
            due("5: less", chosenBy(hall, column, LESS, 2L), 1);
            due("5: not greater", chosenBy(hall, column, NOT_GREATER, 2L), 3);
            due("5: equal", chosenBy(hall, column, EQUAL, 2L), 2);
            due("5: not less", chosenBy(hall, column, NOT_LESS, 2L), 5);
            due("5: greater", chosenBy(hall, column, GREATER, 2L), 3);
            due("5: not equal", chosenBy(hall, column, NOT_EQUAL, 2L), 4);
        }
        due("5: a value that no int is, equal", chosenBy(hall, 0, EQUAL, 1L + (1L << 32)), 0);
        due("5: a value that no int is, less", chosenBy(hall, 0, LESS, 1L << 40), 6);
        due("5: a value that no int is, greater", chosenBy(hall, 1, GREATER, -(1L << 40)), 6);
        due("5: the least long", chosenBy(hall, 2, LESS, Long.MIN_VALUE), 0);
        due("5: the greatest long", chosenBy(hall, 2, NOT_GREATER, Long.MAX_VALUE), 6);
        ColumnHall wide = filled(Long.MIN_VALUE, -1, 0, Long.MAX_VALUE);
        due("5: greater than the least", chosenBy(wide, 3, GREATER, Long.MIN_VALUE), 3);
        due("5: less than the greatest", chosenBy(wide, 3, LESS, Long.MAX_VALUE), 3);
        due("5: not less than the greatest", chosenBy(wide, 3, NOT_LESS, Long.MAX_VALUE), 1);
    }

    private static void promise6All() {
        ColumnHall hall = counted(20);
        due("6: none", hall.all(), 0);
        hall.where(0, LESS, 5L);
        hall.where(1, EQUAL, 0L);
        due("6: two", hall.all(), 2);
        due("6: none behind it", hall.all(), 0);
        due("6: all rows are chosen again", hall.chosen(), 20);
        due("6: counted anew", hall.where(0, LESS, 7L), 1);
        due("6: the old ones don't come back", hall.chosen(), 7);
    }

    private static void promise7Chosen() {
        ColumnHall hall = counted(40);
        due("7: all without a condition", hall.chosen(), 40);
        hall.where(0, NOT_LESS, 10L);
        due("7: one condition", hall.chosen(), 30);
        hall.where(0, LESS, 20L);
        due("7: two conditions", hall.chosen(), 10);
        hall.where(1, EQUAL, 0L);
        due("7: three conditions", hall.chosen(), 3);
        hall.append(12, 0, 0, 0L);
        due("7: a new row", hall.chosen(), 4);
        hall.append(12, 1, 0, 0L);
        due("7: a new row that isn't chosen", hall.chosen(), 4);
    }

    private static void promise8Row() {
        ColumnHall hall = counted(40);
        due("8: without a condition", hall.row(39), 39);
        hall.where(1, EQUAL, 2L);
        due("8: first", hall.row(0), 2);
        due("8: in the second block", hall.row(5), 17);
        due("8: last", hall.row(12), 38);
        outOfBounds("8: behind the last", () -> hall.row(13));
        outOfBounds("8: before the first", () -> hall.row(-1));
        outOfBounds("8: least", () -> hall.row(Integer.MIN_VALUE));
        outOfBounds("8: greatest", () -> hall.row(Integer.MAX_VALUE));
        hall.where(0, LESS, 0L);
        outOfBounds("8: none is chosen", () -> hall.row(0));
        outOfBounds("8: no rows", () -> new ColumnHall().row(0));
    }

    private static long blocksBy(ColumnHall hall, int column, int op, long value) {
        hall.all();
        hall.where(column, op, value);
        return hall.blocks();
    }

    private static void promise9Blocks() {
        due("9: one row", counted(1).blocks(), 1);
        due("9: a full one", counted(16).blocks(), 1);
        due("9: one more row", counted(17).blocks(), 2);
        due("9: all", counted(128).blocks(), 8);
        ColumnHall one = counted(16);
        due("9: less, least", blocksBy(one, 3, LESS, 0L), 0);
        due("9: less, above", blocksBy(one, 3, LESS, 1L), 1);
        due("9: not greater, below", blocksBy(one, 3, NOT_GREATER, -1L), 0);
        due("9: not greater, least", blocksBy(one, 3, NOT_GREATER, 0L), 1);
        due("9: equal, below", blocksBy(one, 3, EQUAL, -1L), 0);
        due("9: equal, least", blocksBy(one, 3, EQUAL, 0L), 1);
        due("9: equal, between cells", blocksBy(one, 3, EQUAL, 5L), 1);
        due("9: equal, greatest", blocksBy(one, 3, EQUAL, 150L), 1);
        due("9: equal, above", blocksBy(one, 3, EQUAL, 151L), 0);
        due("9: not less, greatest", blocksBy(one, 3, NOT_LESS, 150L), 1);
        due("9: not less, above", blocksBy(one, 3, NOT_LESS, 151L), 0);
        due("9: greater, below greatest", blocksBy(one, 3, GREATER, 149L), 1);
        due("9: greater, greatest", blocksBy(one, 3, GREATER, 150L), 0);
        due("9: not equal, least", blocksBy(one, 3, NOT_EQUAL, 0L), 1);
        due("9: not equal, greatest", blocksBy(one, 3, NOT_EQUAL, 150L), 1);
    }

    private static void promise9MoreBlocks() {
        ColumnHall same = new ColumnHall();
        for (int i = 0; i < 16; i++) {
            same.append(7, 7, 7, 7L);
        }
        due("9: not equal to the only cell", blocksBy(same, 2, NOT_EQUAL, 7L), 0);
        due("9: not equal to another", blocksBy(same, 2, NOT_EQUAL, 8L), 1);

        ColumnHall hall = counted(40);
        due("9: the one that isn't full is never passed over", blocksBy(hall, 0, LESS, -5L), 1);
        due("9: two of three", blocksBy(hall, 0, NOT_LESS, 16L), 2);
        hall.where(0, LESS, 16L);
        due("9: each condition passes one over, no row is chosen", hall.blocks(), 1);
        due("9: no row is chosen", hall.chosen(), 0);
        hall.all();
        hall.where(0, NOT_LESS, 0L);
        hall.where(0, EQUAL, 3L);
        hall.where(1, EQUAL, 1L);
        due("9: conditions are asked one by one", hall.blocks(), 2);
        due("9: though together they choose none", hall.chosen(), 0);
        hall.all();
        hall.where(0, LESS, 24L);
        hall.purge();
        hall.all();
        due("9: bounds are those of the rows behind purge", blocksBy(hall, 0, LESS, 24L), 0);
        due("9: the block behind purge", blocksBy(hall, 0, GREATER, 38L), 1);
    }

    private static void promise10Sum() {
        ColumnHall hall = counted(40);
        due("10: all", hall.sum(0), 780);
        due("10: longs", hall.sum(3), 7800);
        hall.where(1, EQUAL, 0L);
        due("10: chosen ones alone", hall.sum(0), 273);
        hall.where(0, LESS, 0L);
        due("10: none", hall.sum(0), 0);
        for (int column : BAD_COLUMNS) {
            badArgument("10: column " + column, () -> hall.sum(column));
        }
        ColumnHall great = filled(Long.MAX_VALUE, Long.MAX_VALUE, 5);
        due("10: wraps", great.sum(3), 3);
        ColumnHall ints = filled(Integer.MAX_VALUE, Integer.MAX_VALUE, 1);
        due("10: ints are added as longs", ints.sum(0), 2L * Integer.MAX_VALUE + 1);
        due("10: no rows", new ColumnHall().sum(2), 0);
    }

    private static void promise11Bound() {
        ColumnHall hall = filled(3, -8, 12, 12, -8, 0);
        due("11: least", hall.bound(0, false), -8);
        due("11: greatest", hall.bound(3, true), 12);
        hall.where(2, NOT_EQUAL, 12L);
        hall.where(2, NOT_EQUAL, -8L);
        due("11: least of the chosen", hall.bound(1, false), 0);
        due("11: greatest of the chosen", hall.bound(1, true), 3);
        hall.where(0, GREATER, 3L);
        refused("11: none, least", NoSuchElementException.class, () -> hall.bound(0, false));
        refused("11: none, greatest", NoSuchElementException.class, () -> hall.bound(3, true));
        for (int column : BAD_COLUMNS) {
            badArgument("11: column first " + column, () -> hall.bound(column, true));
        }
        ColumnHall wide = filled(0, Long.MAX_VALUE, Long.MIN_VALUE, -1);
        due("11: least long", wide.bound(3, false), Long.MIN_VALUE);
        due("11: greatest long", wide.bound(3, true), Long.MAX_VALUE);
        due("11: greatest of lesser than 0", filled(-5, -2, -9).bound(0, true), -2);
        due("11: least of greater than 0", filled(5, 2, 9).bound(0, false), 2);
        refused("11: no rows", NoSuchElementException.class, () -> new ColumnHall().bound(0, true));
    }

    private static void promise12Ranked() {
        ColumnHall hall = filled(4, 9, 4, Long.MIN_VALUE, 9, Long.MAX_VALUE, 4);
        int[] order = {5, 1, 4, 0, 2, 6, 3};
        for (int k = 0; k < order.length; k++) {
            due("12: ranked " + k, hall.ranked(3, k), order[k]);
        }
        hall.where(3, LESS, 9L);
        due("12: first of the chosen", hall.ranked(3, 0), 0);
        due("12: last of the chosen", hall.ranked(3, 3), 3);
        outOfBounds("12: behind the last", () -> hall.ranked(3, 4));
        outOfBounds("12: before the first", () -> hall.ranked(3, -1));
        outOfBounds("12: greatest", () -> hall.ranked(3, Integer.MAX_VALUE));
        for (int column : BAD_COLUMNS) {
            badArgument("12: column first " + column, () -> hall.ranked(column, 99));
        }
        ColumnHall full = counted(128);
        due("12: of all rows the greatest", full.ranked(0, 0), 127);
        due("12: of all rows the least", full.ranked(0, 127), 0);
        due("12: equal ones by rising numbers", full.ranked(1, 1), 5);
        due("12: row is not ordered by it", full.row(1), 1);
    }

    private static void promise13Groups() {
        ColumnHall hall = counted(40);
        due("13: by remainders", hall.groups(1), 3);
        due("13: by different cells", hall.groups(3), 40);
        due("13: by halves", hall.groups(2), 20);
        hall.where(0, LESS, 2L);
        due("13: of the chosen", hall.groups(1), 2);
        due("13: of the chosen, one", hall.groups(2), 1);
        hall.where(0, LESS, 0L);
        due("13: none", hall.groups(1), 0);
        for (int column : BAD_COLUMNS) {
            badArgument("13: column " + column, () -> hall.groups(column));
        }
        due("13: cells that differ above the lower half", filled(1, 1L + (1L << 32), 1).groups(3), 2);
    }

    private static void promise14Group() {
        ColumnHall hall = new ColumnHall();
        hall.append(5, 1, 0, 10L);
        hall.append(-2, 4, 0, 20L);
        hall.append(5, 9, 0, -30L);
        hall.append(7, 3, 0, 40L);
        hall.append(-2, 6, 0, Long.MAX_VALUE);
        due("14: cell of the first", hall.group(0, 0, 0, 0), -2);
        due("14: cell is the group's, whatever of is", hall.group(0, 1, 0, 3), 5);
        due("14: cell of the last", hall.group(0, 2, 0, 0), 7);
        due("14: how many", hall.group(0, 0, 1, 3), 2);
        due("14: how many in the last", hall.group(0, 2, 1, 3), 1);
        due("14: sum", hall.group(0, 1, 2, 3), -20);
        due("14: sum that wraps", hall.group(0, 0, 2, 3), Long.MIN_VALUE + 19);
        due("14: least", hall.group(0, 1, 3, 3), -30);
        due("14: greatest", hall.group(0, 1, 4, 1), 9);
        hall.where(1, LESS, 5L);
        due("14: rows that aren't chosen are in none", hall.group(0, 1, 4, 1), 1);
        hall.where(0, GREATER, 0L);
        due("14: numbers are those of the chosen", hall.group(0, 0, 0, 0), 5);
        outOfBounds("14: behind the last", () -> hall.group(0, 2, 1, 0));
        outOfBounds("14: before the first", () -> hall.group(0, -1, 1, 0));
        outOfBounds("14: greatest", () -> hall.group(0, Integer.MAX_VALUE, 1, 0));
        outOfBounds("14: no rows", () -> new ColumnHall().group(0, 0, 0, 0));
        for (int column : BAD_COLUMNS) {
            badArgument("14: column first " + column, () -> hall.group(column, 99, 0, 0));
            badArgument("14: of first " + column, () -> hall.group(0, 99, 2, column));
            badArgument("14: of, though it isn't needed " + column, () -> hall.group(0, 0, 0, column));
        }
        badArgument("14: what -1", () -> hall.group(0, 0, -1, 0));
        badArgument("14: what 5", () -> hall.group(0, 0, 5, 0));
        badArgument("14: what before k", () -> hall.group(0, 99, 5, 0));
    }

    private static void promise15Pairs() {
        ColumnHall hall = new ColumnHall();
        hall.append(1, 2, 0, 1L);
        hall.append(2, 1, 0, 1L);
        hall.append(1, 1, 0, 2L);
        due("15: one column", hall.pairs(0, 0), 1);
        due("15: all equal", hall.pairs(2, 2), 3);
        due("15: first one, then two", hall.pairs(0, 1), 2);
        due("15: the other way round", hall.pairs(1, 0), 2);
        due("15: a row is no pair with itself", hall.pairs(1, 3), 1);
        due("15: by the first row's column", hall.pairs(3, 1), 3);
        hall.where(0, EQUAL, 1L);
        due("15: both are chosen", hall.pairs(2, 2), 1);
        due("15: the rest of them", hall.pairs(0, 1), 1);
        hall.where(1, EQUAL, 1L);
        due("15: one row", hall.pairs(2, 2), 0);
        for (int column : BAD_COLUMNS) {
            badArgument("15: one " + column, () -> hall.pairs(column, 0));
            badArgument("15: two " + column, () -> hall.pairs(0, column));
        }
        due("15: no rows", new ColumnHall().pairs(0, 0), 0);
        ColumnHall same = new ColumnHall();
        for (int i = 0; i < 128; i++) {
            same.append(6, 6, 6, 6L);
        }
        due("15: as many as can be", same.pairs(0, 3), 8128);
        due("15: a long is no int", filled(1L << 32, 0).pairs(3, 0), 0);
    }

    private static void packed(String what, ColumnHall hall, int column, int way, int bits) {
        due("16: " + what, hall.way(0, column), way);
        due("17: " + what, hall.bits(0, column), bits);
    }

    private static void promises16And17Packing() {
        ColumnHall same = filled(9, 9, 9, 9, 9, 9, 9, 9, 9, 9, 9, 9, 9, 9, 9, 9);
        packed("one cell, int: words", same, 0, 2, 32);
        packed("one cell, long: words", same, 3, 2, 64);

        ColumnHall counted = counted(16);
        packed("0 .. 15: offsets", counted, 0, 3, 39 + 16 * 4);
        packed("three small cells: offsets", counted, 1, 3, 39 + 16 * 2);
        packed("0 .. 150 in longs: offsets", counted, 3, 3, 71 + 16 * 8);

        ColumnHall far = filled(0, 0, 0, 0, 0, 0, 0, 0, 1 << 30, 1 << 30, 1 << 30, 1 << 30, 1 << 30, 1 << 30,
                1 << 30, 1 << 30);
        packed("two far cells in two runs: runs", far, 0, 1, 74);
        packed("two far cells in two runs, long: runs", far, 3, 1, 138);

        long a = 1 << 30;
        ColumnHall turns = filled(0, a, 0, a, 0, a, 0, a, 0, a, 0, a, 0, a, 0, a);
        packed("two far cells by turns: words", turns, 0, 2, 80);
        packed("two far cells by turns, long: words", turns, 3, 2, 144);

        ColumnHall wild = new ColumnHall();
        for (int i = 0; i < 16; i++) {
            wild.append(Integer.MIN_VALUE + i * 286331153, i % 2, i, Long.MIN_VALUE + i * 1229782938247303441L);
        }
        packed("sixteen cells over all ints: plain", wild, 0, 0, 512);
        packed("two near cells by turns: offsets", wild, 1, 3, 55);
        packed("sixteen cells over all longs: plain", wild, 3, 0, 1024);
    }

    private static void promises16And17Edges() {
        // The difference of these is no long; their offsets have 64 figures all the same.
        ColumnHall ends = filled(Long.MIN_VALUE, 1, 2, 3, 4, 5, 6, 7, 8, 9, 10, 11, 12, 13, 14, Long.MAX_VALUE);
        packed("offsets of 64 figures: plain", ends, 3, 0, 1024);
        // 2^63 - 1 less -1 is 2^63: as a long it would be less than 0.
        ColumnHall half = filled(-1, 1, 2, 3, 4, 5, 6, 7, 8, 9, 10, 11, 12, 13, 14, Long.MAX_VALUE);
        packed("offsets of 64 figures, just so: plain", half, 3, 0, 1024);
        // 59 figures: 71 + 944 = 1015; 60 figures: 1031, more than plain.
        long wide = (1L << 59) - 1;
        ColumnHall under = filled(0, 1, 2, 3, 4, 5, 6, 7, 8, 9, 10, 11, 12, 13, 14, wide);
        packed("offsets of 59 figures", under, 3, 3, 1015);
        ColumnHall over = filled(0, 1, 2, 3, 4, 5, 6, 7, 8, 9, 10, 11, 12, 13, 14, wide + 1);
        packed("offsets of 60 figures: plain", over, 3, 0, 1024);
        // 29 figures: 39 + 464 = 503; 30 figures: 519.
        int narrow = (1 << 29) - 1;
        ColumnHall fits = filled(0, 1, 2, 3, 4, 5, 6, 7, 8, 9, 10, 11, 12, 13, 14, narrow);
        packed("int offsets of 29 figures", fits, 0, 3, 503);
        ColumnHall misses = filled(0, 1, 2, 3, 4, 5, 6, 7, 8, 9, 10, 11, 12, 13, 14, narrow + 1);
        packed("int offsets of 30 figures: plain", misses, 0, 0, 512);
        // Offsets reach from the least int to the greatest: 32 figures, by whole numbers.
        ColumnHall ints = new ColumnHall();
        for (int i = 0; i < 16; i++) {
            ints.append(i == 0 ? Integer.MIN_VALUE : i == 15 ? Integer.MAX_VALUE : i, 0, 0, 0L);
        }
        packed("int offsets of 32 figures: plain", ints, 0, 0, 512);
        long far = 1L << 40;
        // Four words: 4 W + 32. Five words: 5 W + 48; both beat 16 runs and far offsets.
        ColumnHall four = filled(0, far, 2, 3, 0, far, 2, 3, 0, far, 2, 3, 0, far, 2, 3);
        packed("four words", four, 3, 2, 256 + 32);
        ColumnHall five = filled(0, far, 2, 3, 4, 0, far, 2, 3, 4, 0, far, 2, 3, 4, 0);
        packed("five words", five, 3, 2, 320 + 48);
    }

    private static void promises16And17Refused() {
        ColumnHall hall = counted(31);
        due("16: a full block", hall.way(0, 0), 3);
        for (int block : new int[] {-1, 1, 2, 7, 8, Integer.MIN_VALUE, Integer.MAX_VALUE}) {
            outOfBounds("16: block " + block, () -> hall.way(block, 0));
            outOfBounds("17: block " + block, () -> hall.bits(block, 0));
            for (int column : BAD_COLUMNS) {
                badArgument("16: column first " + column, () -> hall.way(block, column));
                badArgument("17: column first " + column, () -> hall.bits(block, column));
            }
        }
        hall.append(31, 0, 0, 0L);
        due("16: full now", hall.way(1, 0), 3);
        due("17: full now", hall.bits(1, 0), 39 + 16 * 4);
        ColumnHall full = counted(128);
        due("17: last block", full.bits(7, 0), 39 + 16 * 4);
        outOfBounds("17: behind the last", () -> full.bits(8, 0));
        full.where(0, LESS, 0L);
        due("16: conditions don't matter", full.way(7, 0), 3);
    }

    private static void promises16And17Ties() {
        long far = 1L << 62;
        ColumnHall fourteen = filled(0, far, 1, 2, 3, 4, 5, 6, 7, 8, 9, 10, 11, 12, 0, far);
        packed("fourteen words, long", fourteen, 3, 2, 14 * 64 + 64);
        ColumnHall fifteen = filled(0, far, 1, 2, 3, 4, 5, 6, 7, 8, 9, 10, 11, 12, 13, far);
        packed("words need as much as plain, long: plain", fifteen, 3, 0, 1024);
        ColumnHall ints = new ColumnHall();
        for (int i = 0; i < 16; i++) {
            ints.append(i % 14 == 1 ? 1 << 30 : i % 14, 0, 0, 0L);
        }
        packed("words need as much as plain, int: plain", ints, 0, 0, 512);
        // Eleven runs and offsets of 23 figures need 407 in ints, of 43 figures 759 in longs.
        ColumnHall ofInts = filled(0, 0, 0, 0, 0, 0, 1, 2, 3, 4, 5, 6, 7, 8, 9, 1 << 22);
        packed("offsets need as much as runs, int: runs", ofInts, 0, 1, 407);
        ColumnHall ofLongs = filled(0, 0, 0, 0, 0, 0, 1, 2, 3, 4, 5, 6, 7, 8, 9, 1L << 42);
        packed("offsets need as much as runs, long: runs", ofLongs, 3, 1, 759);
    }

    private static void promise18Purge() {
        ColumnHall hall = counted(40);
        hall.where(1, EQUAL, 1L);
        due("18: how many", hall.purge(), 13);
        due("18: rows", hall.rows(), 27);
        due("18: none is left", hall.chosen(), 0);
        due("18: again", hall.purge(), 0);
        due("18: conditions stay", hall.all(), 1);
        due("18: the others stay in their order", hall.cell(0, 0), 0);
        due("18: the second", hall.cell(1, 0), 2);
        due("18: the last", hall.cell(26, 3), 390);
        outOfBounds("18: no row behind them", () -> hall.cell(27, 0));
        due("18: the block is packed anew", hall.bits(0, 0), 39 + 16 * 5);
        outOfBounds("18: the second block isn't full any more", () -> hall.way(1, 0));
        due("18: the next number", hall.append(1, 1, 1, 1L), 27);
        due("18: without a condition all go", hall.purge(), 28);
        due("18: no rows", hall.rows(), 0);
        due("18: no blocks", hall.blocks(), 0);
        due("18: of no rows", hall.purge(), 0);
        ColumnHall first = counted(32);
        first.where(0, LESS, 16L);
        due("18: a block", first.purge(), 16);
        due("18: its next one is the first", first.cell(0, 0), 16);
        due("18: it is full", first.bits(0, 3), 71 + 16 * 8);
        due("18: it is not passed over for what stood there", first.blocks(), 0);
    }

    public static void main(String[] args) {
        promise1NewObject();
        promise2Append();
        promise3Rows();
        promise4Cell();
        promise5Where();
        promise5Ops();
        promise6All();
        promise7Chosen();
        promise8Row();
        promise9Blocks();
        promise9MoreBlocks();
        promise10Sum();
        promise11Bound();
        promise12Ranked();
        promise13Groups();
        promise14Group();
        promise15Pairs();
        promises16And17Packing();
        promises16And17Edges();
        promises16And17Refused();
        promises16And17Ties();
        promise18Purge();
        System.out.println(wrong == 0 ? "all promises hold" : wrong + " answers are not as due");
        if (wrong != 0) {
            System.exit(1);
        }
    }
}
