import java.util.Arrays;
import java.util.NoSuchElementException;

/**
 * One test for each sentence of the document that names an edge, in the document's order. The
 * sentence stands before what is wrong when its test fails. No object gets over 512 calls.
 */
public final class EdgesTest {
    private static final int LESS = 0;
    private static final int NOT_GREATER = 1;
    private static final int EQUAL = 2;
    private static final int NOT_LESS = 3;
    private static final int GREATER = 4;
    private static final int NOT_EQUAL = 5;

    private static final int PLAIN = 0;
    private static final int RUNS = 1;
    private static final int WORDS = 2;
    private static final int OFFSETS = 3;

    private static final int LEAST_INT = Integer.MIN_VALUE;
    private static final int GREATEST_INT = Integer.MAX_VALUE;
    private static final long LEAST_LONG = Long.MIN_VALUE;
    private static final long GREATEST_LONG = Long.MAX_VALUE;

    private static final int[] NO_COLUMNS = {LEAST_INT, -128, -1, 4, 128, GREATEST_INT};
    private static final int[] FAR_INDEXES = {LEAST_INT, -129, -1, 128, 1 << 30, GREATEST_INT};

    private static String sentence = "";
    private static int sentences = 0;
    /** Of each sentence only the first few faults are told. */
    private static String lastTold = "";
    private static int told = 0;
    private static int wrong = 0;

    private interface Call {
        long make();
    }

    private static void sentence(String words) {
        sentence = words;
        sentences++;
    }

    private static void fault(String text) {
        wrong++;
        if (!sentence.equals(lastTold)) {
            System.out.println("\"" + sentence + "\"");
            lastTold = sentence;
            told = 0;
        }
        told++;
        if (told <= 5) {
            System.out.println("    " + text);
        }
    }

    private static void due(String call, long want, long got) {
        if (got != want) {
            fault(call + " answered " + got + ", due is " + want);
        }
    }

    /** The class of the exception must be the very one, not one below it. */
    private static void refused(String call, Class<?> want, Call made) {
        Class<?> got = null;
        try {
            made.make();
        } catch (RuntimeException e) {
            got = e.getClass();
        }
        if (got != want) {
            fault(call + " threw " + got + ", due is " + want);
        }
    }

    private static void argument(String call, Call made) {
        refused(call, IllegalArgumentException.class, made);
    }

    private static void state(String call, Call made) {
        refused(call, IllegalStateException.class, made);
    }

    private static void bounds(String call, Call made) {
        refused(call, IndexOutOfBoundsException.class, made);
    }

    private static void element(String call, Call made) {
        refused(call, NoSuchElementException.class, made);
    }

    /** Row i: (i, i % 3, 7, 10 i). */
    private static ColumnHall counted(int rows) {
        return addCounted(new ColumnHall(), 0, rows);
    }

    private static ColumnHall addCounted(ColumnHall hall, int from, int to) {
        for (int i = from; i < to; i++) {
            hall.append(i, i % 3, 7, 10L * i);
        }
        return hall;
    }

    /** Rows with these cells in one column, 0 in the others. */
    private static ColumnHall filled(int column, long... cells) {
        ColumnHall hall = new ColumnHall();
        for (long cell : cells) {
            put(hall, column, cell);
        }
        return hall;
    }

    private static int put(ColumnHall hall, int column, long cell) {
        int small = (int) cell;
        return hall.append(column == 0 ? small : 0, column == 1 ? small : 0, column == 2 ? small : 0,
                column == 3 ? cell : 0L);
    }

    private static long[] sixteen(long cell) {
        long[] cells = new long[16];
        Arrays.fill(cells, cell);
        return cells;
    }

    private static ColumnHall choosing(ColumnHall hall, int column, int op, long value) {
        hall.all();
        hall.where(column, op, value);
        return hall;
    }

    private static ColumnHall noneChosen(int rows) {
        return choosing(counted(rows), 0, LESS, 0L);
    }

    private static void dueRows(String call, ColumnHall hall, int... rows) {
        due(call + ": chosen()", rows.length, hall.chosen());
        for (int k = 0; k < rows.length && rows.length == hall.chosen(); k++) {
            due(call + ": row(" + k + ")", rows[k], hall.row(k));
        }
    }

    // What it is

    private static void useFor512Calls() {
        sentence("An object is used for at most 512 calls after it has been made");
        ColumnHall asked = counted(128);
        for (int i = 128; i < 511; i++) {
            due("ranked, call " + (i + 1), 127, asked.ranked(1, 84));
        }
        due("the 512th call", 81280, asked.sum(3));

        ColumnHall put = counted(128);
        for (int i = 128; i < 511; i++) {
            state("append, call " + (i + 1), () -> put.append(0, 0, 0, 0L));
        }
        due("rows, the 512th call", 128, put.rows());

        ColumnHall emptied = new ColumnHall();
        for (int i = 0; i < 256; i++) {
            due("append", 0, emptied.append(i, i, i, i));
            due("purge", 1, emptied.purge());
        }
        ColumnHall conditioned = new ColumnHall();
        for (int i = 0; i < 256; i++) {
            due("where", 1, conditioned.where(i % 4, i % 6, i));
            due("all", 1, conditioned.all());
        }
        ColumnHall refilled = new ColumnHall();
        for (int i = 0; i < 3; i++) {
            addCounted(refilled, 0, 128);
            due("purge of 128", 128, refilled.purge());
        }
        addCounted(refilled, 0, 124);
        due("rows, the 512th call", 124, refilled.rows());
    }

    // Terms

    private static void cellsOfColumns() {
        sentence("ints in 0, 1 and 2, a long in 3");
        int[] ints = {LEAST_INT, -1, 0, 1, GREATEST_INT};
        long[] longs = {LEAST_LONG, -1L - (1L << 32), 0xFFFFFFFFL, 1L << 32, GREATEST_LONG};
        ColumnHall hall = new ColumnHall();
        for (int i = 0; i < 20; i++) {
            hall.append(ints[i % 5], ints[(i + 1) % 5], ints[(i + 2) % 5], longs[i % 5]);
        }
        for (int i = 0; i < 20; i++) {
            due("cell(" + i + ", 0)", ints[i % 5], hall.cell(i, 0));
            due("cell(" + i + ", 1)", ints[(i + 1) % 5], hall.cell(i, 1));
            due("cell(" + i + ", 2)", ints[(i + 2) % 5], hall.cell(i, 2));
            due("cell(" + i + ", 3)", longs[i % 5], hall.cell(i, 3));
        }
    }

    private static void rowsAreNumbered() {
        sentence("Rows are numbered 0, 1, .. in the order in which they were put");
        ColumnHall hall = new ColumnHall();
        for (int i = 0; i < 128; i++) {
            due("append", i, hall.append(-i, 2 * i, 5, 100L - i));
        }
        for (int i = 0; i < 128; i++) {
            due("cell(" + i + ", 0)", -i, hall.cell(i, 0));
            due("cell(" + i + ", 3)", 100L - i, hall.cell(i, 3));
        }
    }

    private static void atMost128Rows() {
        sentence("there are at most 128");
        ColumnHall hall = counted(127);
        due("append, the 128th", 127, hall.append(9, 9, 9, 9L));
        state("append, the 129th", () -> hall.append(9, 9, 9, 9L));
        due("rows", 128, hall.rows());
    }

    private static void blocksOfSixteen() {
        sentence("BLOCK b has the rows 16 b .. 16 b + 15");
        for (int b = 0; b < 8; b++) {
            ColumnHall hall = new ColumnHall();
            for (int i = 0; i < 128; i++) {
                hall.append(i == 16 * b ? 1 : 0, i == 16 * b + 15 ? 1 : 0, 0, 0L);
            }
            for (int column = 0; column < 2; column++) {
                due("blocks, row of block " + b, 1, choosing(hall, column, EQUAL, 1L).blocks());
                for (int other = 0; other < 8; other++) {
                    due("bits(" + other + ", " + column + ")", other == b ? 55 : 32, hall.bits(other, column));
                }
            }
        }
    }

    private static void fullBlock() {
        sentence("it is FULL when all of these are there");
        for (int rows = 0; rows <= 128; rows++) {
            ColumnHall hall = noneChosen(rows);
            int full = rows / 16;
            for (int block = 0; block < full; block++) {
                due("way of a full block", OFFSETS, hall.way(block, 0));
            }
            bounds("way(" + full + ", 0) with " + rows + " rows", () -> hall.way(full, 0));
            bounds("bits(" + full + ", 0) with " + rows + " rows", () -> hall.bits(full, 0));
            due("blocks() with " + rows + " rows, full ones passed over", rows % 16 == 0 ? 0 : 1, hall.blocks());
        }
    }

    private static void conditionsAreAtMostThree() {
        sentence("CONDITIONS are a list of at most three, empty at first");
        ColumnHall hall = counted(3);
        due("chosen at first", 3, hall.chosen());
        due("all at first", 0, hall.all());
        due("the first", 1, hall.where(0, NOT_EQUAL, 9L));
        due("the second", 2, hall.where(1, NOT_EQUAL, 9L));
        due("the third", 3, hall.where(2, NOT_EQUAL, 9L));
        state("the fourth", () -> hall.where(3, NOT_EQUAL, 9L));
        due("all", 3, hall.all());
    }

    private static final int[][] ROWS_BY_OP = {{0}, {0, 1}, {1}, {1, 2}, {2}, {0, 2}};

    /** One method, six sentences: each op has its own. */
    private static void ops() {
        String[] words = {"op 0: less than the value", "1: not greater", "2: equal", "3: not less", "4: greater",
            "5: not equal"};
        for (int op = 0; op < 6; op++) {
            sentence(words[op]);
            for (int column = 0; column < 4; column++) {
                dueRows("around 10", choosing(filled(column, 9, 10, 11), column, op, 10L), ROWS_BY_OP[op]);
                dueRows("around 0", choosing(filled(column, -1, 0, 1), column, op, 0L), ROWS_BY_OP[op]);
                dueRows("ends of ints", choosing(filled(column, LEAST_INT, 0, GREATEST_INT), column, op, 0L),
                        ROWS_BY_OP[op]);
            }
            dueRows("ends of longs", choosing(filled(3, LEAST_LONG, 0, GREATEST_LONG), 3, op, 0L), ROWS_BY_OP[op]);
            dueRows("above ints", choosing(filled(3, (1L << 32) - 1, 1L << 32, (1L << 32) + 1), 3, op, 1L << 32),
                    ROWS_BY_OP[op]);
        }
    }

    private static void anyLongAsValue() {
        sentence("a value, (any long, for all columns)");
        int[] none = {};
        int[] both = {0, 1};
        for (int column = 0; column < 4; column++) {
            ColumnHall ends = filled(column, LEAST_INT, GREATEST_INT);
            long above = GREATEST_INT + 1L;
            long below = LEAST_INT - 1L;
            int[][] whenAbove = {both, both, none, none, none, both};
            int[][] whenBelow = {none, none, none, both, both, both};
            for (int op = 0; op < 6; op++) {
                dueRows("just above ints, op " + op, choosing(ends, column, op, above), whenAbove[op]);
                dueRows("just below ints, op " + op, choosing(ends, column, op, below), whenBelow[op]);
                dueRows("greatest long, op " + op, choosing(ends, column, op, GREATEST_LONG), whenAbove[op]);
                dueRows("least long, op " + op, choosing(ends, column, op, LEAST_LONG), whenBelow[op]);
            }
            ColumnHall sevens = filled(column, 7, 7);
            dueRows("equal in the lower half alone", choosing(sevens, column, EQUAL, 7L + (1L << 32)), none);
            dueRows("not equal in the upper half", choosing(sevens, column, NOT_EQUAL, 7L + (1L << 32)), both);
        }
        ColumnHall longs = filled(3, LEAST_LONG, GREATEST_LONG);
        int[][] atLeast = {none, {0}, {0}, both, {1}, {1}};
        int[][] atGreatest = {{0}, both, {1}, {1}, none, {0}};
        for (int op = 0; op < 6; op++) {
            dueRows("the least long itself, op " + op, choosing(longs, 3, op, LEAST_LONG), atLeast[op]);
            dueRows("the greatest long itself, op " + op, choosing(longs, 3, op, GREATEST_LONG), atGreatest[op]);
        }
    }

    private static void chosenIfAllHold() {
        sentence("A row is CHOSEN if all conditions hold for it");
        ColumnHall hall = new ColumnHall();
        hall.append(0, 1, 1, 1L);
        hall.append(1, 0, 1, 1L);
        hall.append(1, 1, 0, 1L);
        hall.append(1, 1, 1, 0L);
        hall.where(0, EQUAL, 1L);
        dueRows("one condition", hall, 1, 2, 3);
        hall.where(1, EQUAL, 1L);
        dueRows("two conditions", hall, 2, 3);
        hall.where(2, EQUAL, 1L);
        dueRows("three conditions", hall, 3);
        ColumnHall same = counted(40);
        same.where(0, NOT_LESS, 14L);
        same.where(0, NOT_GREATER, 17L);
        same.where(0, NOT_EQUAL, 16L);
        dueRows("three of one column", same, 14, 15, 17);
    }

    private static void allAreWithoutAny() {
        sentence("(all rows are without any)");
        due("no rows", 0, counted(0).chosen());
        due("one row", 1, counted(1).chosen());
        due("128 rows", 128, counted(128).chosen());
        due("the last of 128", 127, counted(128).row(127));
        ColumnHall hall = noneChosen(20);
        hall.all();
        due("behind all()", 20, hall.chosen());
    }

    private static void dueBlocks(String what, ColumnHall hall, int column, int op, long[] values, int[] want) {
        for (int i = 0; i < values.length; i++) {
            due(what + ", column " + column + ", op " + op + ", value " + values[i], want[i],
                    choosing(hall, column, op, values[i]).blocks());
        }
    }

    /** Ten at both ends of the block, twenty within, and nothing between them. */
    private static long[] tensAndTwenties() {
        long[] cells = sixteen(10);
        cells[7] = 20;
        return cells;
    }

    private static void passedOver() {
        sentence("PASSED OVER if for some condition no number from the least cell of that column in this block to"
                + " the greatest one could make it hold");
        long[] values = {LEAST_LONG, 9, 10, 11, 15, 19, 20, 21, GREATEST_LONG};
        int[][] want = {
            {0, 0, 0, 1, 1, 1, 1, 1, 1},
            {0, 0, 1, 1, 1, 1, 1, 1, 1},
            {0, 0, 1, 1, 1, 1, 1, 0, 0},
            {1, 1, 1, 1, 1, 1, 1, 0, 0},
            {1, 1, 1, 1, 1, 1, 0, 0, 0},
            {1, 1, 1, 1, 1, 1, 1, 1, 1}};
        for (int column = 0; column < 4; column++) {
            ColumnHall hall = filled(column, tensAndTwenties());
            for (int op = 0; op < 6; op++) {
                dueBlocks("10 and 20", hall, column, op, values, want[op]);
            }
            due("10 in the lower half alone", 0, choosing(hall, column, EQUAL, 10L + (1L << 32)).blocks());
        }
    }

    private static void passedOverWithOneCell() {
        sentence("(for op 5: if both are its value)");
        long[] values = {9, 10, 11};
        int[][] want = {{0, 0, 1}, {0, 1, 1}, {0, 1, 0}, {1, 1, 0}, {1, 0, 0}, {1, 0, 1}};
        for (int column = 0; column < 4; column++) {
            ColumnHall flat = filled(column, sixteen(10));
            for (int op = 0; op < 6; op++) {
                dueBlocks("10 alone", flat, column, op, values, want[op]);
            }
            due("10 in the lower half alone", 1, choosing(flat, column, NOT_EQUAL, 10L + (1L << 32)).blocks());
            ColumnHall two = filled(column, tensAndTwenties());
            due("the least one alone is the value", 1, choosing(two, column, NOT_EQUAL, 10L).blocks());
            due("the greatest one alone is the value", 1, choosing(two, column, NOT_EQUAL, 20L).blocks());
        }
    }

    private static void passedOverAtTheEndsOfLongs() {
        sentence("from the least cell .. to the greatest one (the ends of all longs)");
        long[] values = {LEAST_LONG, GREATEST_LONG};
        int[][] ofLeast = {{0, 1}, {1, 1}, {1, 0}, {1, 0}, {0, 0}, {0, 1}};
        int[][] ofGreatest = {{0, 0}, {0, 1}, {0, 1}, {1, 1}, {1, 0}, {1, 0}};
        int[][] ofBoth = {{0, 1}, {1, 1}, {1, 1}, {1, 1}, {1, 0}, {1, 1}};
        long[] both = sixteen(LEAST_LONG);
        both[15] = GREATEST_LONG;
        for (int op = 0; op < 6; op++) {
            dueBlocks("least longs", filled(3, sixteen(LEAST_LONG)), 3, op, values, ofLeast[op]);
            dueBlocks("greatest longs", filled(3, sixteen(GREATEST_LONG)), 3, op, values, ofGreatest[op]);
            dueBlocks("both", filled(3, both), 3, op, values, ofBoth[op]);
        }
    }

    private static void boundsOfAllSixteen() {
        sentence("the least cell of that column in this block to the greatest one (wherever they stand)");
        for (int at = 0; at < 16; at++) {
            for (int column = 0; column < 4; column++) {
                long[] cells = sixteen(50);
                cells[at] = 40;
                due("the least at " + at, 1, choosing(filled(column, cells), column, LESS, 41L).blocks());
                cells[at] = 60;
                due("the greatest at " + at, 1, choosing(filled(column, cells), column, GREATER, 59L).blocks());
            }
        }
    }

    private static void passedOverForSomeCondition() {
        sentence("for some condition (each is asked alone, and one is enough)");
        for (int at = 0; at < 3; at++) {
            ColumnHall hall = counted(16);
            for (int i = 0; i < 3; i++) {
                hall.where(0, i == at ? GREATER : NOT_GREATER, 15L);
            }
            due("blocks, condition " + at + " passes it over", 0, hall.blocks());
        }
        ColumnHall together = counted(16);
        together.where(0, EQUAL, 3L);
        together.where(0, EQUAL, 4L);
        due("blocks, each could hold, both never", 1, together.blocks());
        due("chosen", 0, together.chosen());
    }

    private static void passedOverByThatColumnAndBlock() {
        sentence("of that column in this block");
        ColumnHall hall = new ColumnHall();
        for (int i = 0; i < 48; i++) {
            int block = i / 16;
            hall.append(block, 10 + block, 20 + block, 30L + block);
        }
        for (int column = 0; column < 4; column++) {
            for (int block = 0; block < 3; block++) {
                choosing(hall, column, EQUAL, 10L * column + block);
                due("blocks, column " + column + " of block " + block, 1, hall.blocks());
                due("the first chosen row", 16 * block, hall.row(0));
                due("chosen", 16, hall.chosen());
            }
            due("blocks, before all", 0, choosing(hall, column, LESS, 10L * column).blocks());
            due("blocks, two of three", 2, choosing(hall, column, NOT_EQUAL, 10L * column + 1).blocks());
        }
    }

    private static void packed(String what, ColumnHall hall, int column, int way, int bits) {
        due(what + ": way(0, " + column + ")", way, hall.way(0, column));
        due(what + ": bits(0, " + column + ")", bits, hall.bits(0, column));
    }

    /** Sixteen numbers so far from one another that offsets never pay. */
    private static long far(int column, int i) {
        return column == 3 ? LEAST_LONG + i * (GREATEST_LONG / 15 * 2) : LEAST_INT + i * (GREATEST_INT / 15 * 2L);
    }

    private static void plain() {
        sentence("W is 32 for the columns 0, 1, 2, and 64 for column 3; 0 PLAIN: 16 W");
        for (int column = 0; column < 4; column++) {
            long[] cells = new long[16];
            for (int i = 0; i < 16; i++) {
                cells[i] = far(column, i);
            }
            packed("sixteen far cells", filled(column, cells), column, PLAIN, column == 3 ? 1024 : 512);
        }
    }

    private static void widthOfZero() {
        sentence("the width of a number .. is how many binary figures it has, 0 for 0");
        for (int column = 0; column < 4; column++) {
            int w = column == 3 ? 64 : 32;
            for (long cell : new long[] {0, 7, -1, far(column, 0), far(column, 15)}) {
                packed("one cell, " + cell, filled(column, sixteen(cell)), column, WORDS, w);
            }
        }
    }

    /** A run of each of so many far cells; the last run is as long as need be. */
    private static long[] farRuns(int column, int runs) {
        long[] cells = new long[16];
        for (int i = 0; i < 16; i++) {
            cells[i] = far(column, Math.min(i, runs - 1));
        }
        return cells;
    }

    private static void runs() {
        sentence("1 RUNS: W + 5 for each run (cells one behind the other that are equal, as many as there are)");
        for (int column = 0; column < 4; column++) {
            int w = column == 3 ? 64 : 32;
            for (int runs = 2; runs <= 12; runs++) {
                packed(runs + " runs", filled(column, farRuns(column, runs)), column, RUNS, runs * (w + 5));
            }
            // One more needs more than the words 13 W + 64 do.
            packed("13 runs", filled(column, farRuns(column, 13)), column, WORDS, 13 * w + 64);
        }
        long a = far(0, 0);
        long b = far(0, 15);
        // Two words in three runs: 37 * 3 = 111, but the words need 80.
        packed("a cell that comes again is a run again",
                filled(0, a, a, a, a, a, b, b, b, b, b, a, a, a, a, a, a), 0, WORDS, 80);
        packed("two runs, the first of one cell",
                filled(0, a, b, b, b, b, b, b, b, b, b, b, b, b, b, b, b), 0, RUNS, 74);
        packed("two runs, the last of one cell",
                filled(0, a, a, a, a, a, a, a, a, a, a, a, a, a, a, a, b), 0, RUNS, 74);
    }

    private static void runsEndAtTheBlock() {
        sentence("1 RUNS (a run ends with its block)");
        ColumnHall hall = new ColumnHall();
        for (int i = 0; i < 48; i++) {
            put(hall, 0, i < 8 || i >= 40 ? far(0, 0) : far(0, 15));
        }
        for (int block = 0; block < 3; block++) {
            due("way(" + block + ", 0)", block == 1 ? WORDS : RUNS, hall.way(block, 0));
            due("bits(" + block + ", 0)", block == 1 ? 32 : 74, hall.bits(block, 0));
        }
    }

    private static void words() {
        sentence("2 WORDS: W for each different cell, and 16 times the width of their number less one");
        int[] widths = {0, 0, 1, 2, 2, 3, 3, 3, 3, 4, 4, 4, 4, 4, 4};
        for (int column = 0; column < 4; column++) {
            int w = column == 3 ? 64 : 32;
            for (int words = 2; words <= (column == 3 ? 14 : 13); words++) {
                long[] cells = new long[16];
                for (int i = 0; i < 16; i++) {
                    cells[i] = far(column, i % words);
                }
                packed(words + " words by turns", filled(column, cells), column, WORDS,
                        words * w + 16 * widths[words]);
            }
        }
    }

    /** Sixteen different cells from base to base + spread, the least and the greatest within. */
    private static long[] spread(long base, long spread) {
        long[] cells = new long[16];
        for (int i = 0; i < 16; i++) {
            cells[i] = base + (i == 5 ? spread : i < 5 ? i + 1 : i == 15 ? 0 : i);
        }
        return cells;
    }

    private static void dueSpread(int column, long spread, int width) {
        int w = column == 3 ? 64 : 32;
        int need = w + 7 + 16 * width;
        boolean pays = need < 16 * w;
        long least = column == 3 ? LEAST_LONG : LEAST_INT;
        long greatest = column == 3 ? GREATEST_LONG : GREATEST_INT;
        for (long base : new long[] {least, -20, 0, greatest - spread}) {
            if (base <= greatest - spread) {
                packed("from " + base + ", " + spread + " more", filled(column, spread(base, spread)), column,
                        pays ? OFFSETS : PLAIN, pays ? need : 16 * w);
            }
        }
    }

    private static void offsets() {
        sentence("3 OFFSETS: W + 7, and 16 times the width of the greatest cell less the least one");
        for (int column = 0; column < 4; column++) {
            for (int figures = 5; figures <= (column == 3 ? 63 : 31); figures++) {
                long most = figures == 63 ? GREATEST_LONG : (1L << figures) - 1;
                dueSpread(column, most / 2 + 1, figures);
                dueSpread(column, most, figures);
            }
        }
    }

    private static void smallOffsets() {
        sentence("3 OFFSETS: .. the width of the greatest cell less the least one (small ones)");
        int[] widths = {0, 1, 2, 2, 3, 3, 3, 3, 4, 4, 4, 4, 4, 4, 4, 4};
        for (int column = 0; column < 4; column++) {
            int w = column == 3 ? 64 : 32;
            for (int spread = 1; spread < 16; spread++) {
                for (long base : new long[] {-3, far(column, 0), GREATEST_INT - spread}) {
                    long[] cells = new long[16];
                    for (int i = 0; i < 16; i++) {
                        cells[i] = base + i % (spread + 1);
                    }
                    packed("from " + base + ", " + spread + " more", filled(column, cells), column, OFFSETS,
                            w + 7 + 16 * widths[spread]);
                }
            }
        }
    }

    private static void offsetsByWholeNumbers() {
        sentence("the greatest cell less the least one (by whole numbers)");
        // As an int each of these differences would be less than 0.
        for (int column = 0; column < 3; column++) {
            for (int less = 0; less < 3; less++) {
                long[] cells = spread(LEAST_INT, GREATEST_INT - (long) LEAST_INT - less);
                packed("all ints but " + less, filled(column, cells), column, PLAIN, 512);
                cells = spread(-1L - less, GREATEST_INT + 1L + less);
                packed("half of all ints, " + less, filled(column, cells), column, PLAIN, 512);
            }
        }
        // As a long each of these differences would be less than 0.
        for (int less = 0; less < 3; less++) {
            packed("all longs but " + less, filled(3, spread(LEAST_LONG, -1L - less)), 3, PLAIN, 1024);
            packed("half of all longs, " + less, filled(3, spread(-1L - less, LEAST_LONG + less)), 3, PLAIN, 1024);
        }
        // Two words in two runs, and offsets of all figures: runs need the least.
        for (int column = 0; column < 4; column++) {
            long[] cells = sixteen(column == 3 ? LEAST_LONG : LEAST_INT);
            cells[15] = column == 3 ? GREATEST_LONG : GREATEST_INT;
            packed("both ends", filled(column, cells), column, RUNS, column == 3 ? 138 : 74);
        }
    }

    private static void tiesGoToTheLeastNumber() {
        sentence("the one that needs the least BITS, of several the one with the least number");
        for (int column = 0; column < 4; column++) {
            int w = column == 3 ? 64 : 32;
            // 14 words in ints and 15 in longs need 16 W, as plain does.
            int words = column == 3 ? 15 : 14;
            long[] turns = new long[16];
            for (int i = 0; i < 16; i++) {
                turns[i] = far(column, i % words);
            }
            packed("words as plain", filled(column, turns), column, PLAIN, 16 * w);
            // Eleven runs need as much as offsets of 23 figures in ints, of 43 in longs.
            long[] runs = new long[16];
            for (int i = 0; i < 16; i++) {
                runs[i] = Math.max(0, i - 5);
            }
            runs[15] = column == 3 ? 1L << 42 : 1L << 22;
            packed("offsets as runs", filled(column, runs), column, RUNS, 11 * (w + 5));
            runs[15]--;
            runs[15] /= 2;
            packed("offsets one figure less", filled(column, runs), column, OFFSETS, 11 * (w + 5) - 32);
            runs[15] = column == 3 ? 1L << 43 : 1L << 23;
            packed("offsets one figure more", filled(column, runs), column, RUNS, 11 * (w + 5));
        }
    }

    private static void columnsArePackedAlone() {
        sentence("Each column of a full block has a WAY");
        ColumnHall hall = new ColumnHall();
        for (int i = 0; i < 32; i++) {
            int in = i % 16;
            boolean first = i < 16;
            hall.append((int) far(0, first ? in : 0), (int) far(1, first ? in / 8 : in), (int) far(2, in % 2),
                    first ? in : far(3, in));
        }
        int[][] ways = {{PLAIN, RUNS, WORDS, OFFSETS}, {WORDS, PLAIN, WORDS, PLAIN}};
        int[][] bits = {{512, 74, 80, 135}, {32, 512, 80, 1024}};
        for (int block = 0; block < 2; block++) {
            for (int column = 0; column < 4; column++) {
                due("way(" + block + ", " + column + ")", ways[block][column], hall.way(block, column));
                due("bits(" + block + ", " + column + ")", bits[block][column], hall.bits(block, column));
            }
        }
    }

    private static void refusedChangesNothing() {
        sentence("A call that throws changes nothing");
        ColumnHall hall = counted(128);
        hall.where(0, NOT_LESS, 100L);
        hall.where(1, EQUAL, 2L);
        hall.where(3, LESS, 1190L);
        state("append", () -> hall.append(104, 2, 0, 0L));
        state("where", () -> hall.where(0, LESS, 0L));
        argument("where, column 4", () -> hall.where(4, LESS, 0L));
        argument("where, op 6", () -> hall.where(0, 6, 0L));
        bounds("cell", () -> hall.cell(128, 0));
        bounds("row", () -> hall.row(6));
        bounds("ranked", () -> hall.ranked(0, 6));
        bounds("group", () -> hall.group(0, 6, 0, 0));
        argument("pairs", () -> hall.pairs(0, 4));
        bounds("way", () -> hall.way(8, 0));
        dueRows("behind them", hall, 101, 104, 107, 110, 113, 116);
        due("rows", 128, hall.rows());
        due("all", 3, hall.all());
        due("where", 1, hall.where(0, GREATER, 125L));
        due("sum", 253, hall.sum(0));
    }

    private static void firstNamedException() {
        sentence("of several reasons the exception named first is thrown");
        ColumnHall none = new ColumnHall();
        argument("cell: column and row", () -> none.cell(0, 4));
        argument("bound: column and none chosen", () -> none.bound(-1, true));
        argument("ranked: column and k", () -> none.ranked(4, 0));
        argument("group: column and k", () -> none.group(4, 0, 0, 0));
        argument("group: what and k", () -> none.group(0, 0, 5, 0));
        argument("group: of and k", () -> none.group(0, 0, 0, 4));
        argument("way: column and block", () -> none.way(0, 4));
        argument("bits: column and block", () -> none.bits(0, -1));
        none.where(0, EQUAL, 0L);
        none.where(0, EQUAL, 0L);
        none.where(0, EQUAL, 0L);
        argument("where: column and three", () -> none.where(4, 0, 0L));
        argument("where: op and three", () -> none.where(0, 6, 0L));
        argument("where: column, op and three", () -> none.where(-1, -1, 0L));
    }

    private static void noSuchColumn() {
        sentence("In all calls: illegal argument: column is not 0 .. 3");
        for (ColumnHall hall : new ColumnHall[] {counted(20), noneChosen(20), counted(0), counted(128)}) {
            refusesNoColumns(hall);
        }
        ColumnHall hall = counted(20);
        for (int column = 0; column < 4; column++) {
            due("cell, " + column, column == 3 ? 10 : column == 2 ? 7 : 1, hall.cell(1, column));
            due("sum, " + column, new long[] {190, 19, 140, 1900}[column], hall.sum(column));
            due("pairs, " + column, new long[] {0, 57, 190, 0}[column], hall.pairs(column, column));
            due("where, " + column, 1, hall.where(column, NOT_LESS, 0L));
            hall.all();
        }
    }

    private static void refusesNoColumns(ColumnHall hall) {
        for (int column : NO_COLUMNS) {
            argument("cell, " + column, () -> hall.cell(0, column));
            argument("where, " + column, () -> hall.where(column, 0, 0L));
            argument("sum, " + column, () -> hall.sum(column));
            argument("bound, least, " + column, () -> hall.bound(column, false));
            argument("bound, greatest, " + column, () -> hall.bound(column, true));
            argument("ranked, " + column, () -> hall.ranked(column, 0));
            argument("groups, " + column, () -> hall.groups(column));
            for (int what = 0; what < 5; what++) {
                int asked = what;
                argument("group, " + column, () -> hall.group(column, 0, asked, 0));
            }
            argument("pairs, one " + column, () -> hall.pairs(column, 0));
            argument("pairs, two " + column, () -> hall.pairs(0, column));
            argument("pairs, both " + column, () -> hall.pairs(column, column));
            argument("way, " + column, () -> hall.way(0, column));
            argument("bits, " + column, () -> hall.bits(0, column));
        }
    }

    // Promises

    private static void promise1() {
        sentence("Promise 1: No rows, no conditions.");
        ColumnHall hall = new ColumnHall();
        due("rows", 0, hall.rows());
        due("chosen", 0, hall.chosen());
        due("blocks", 0, hall.blocks());
        for (int column = 0; column < 4; column++) {
            int asked = column;
            due("sum", 0, hall.sum(column));
            due("groups", 0, hall.groups(column));
            due("pairs", 0, hall.pairs(column, column));
            bounds("cell", () -> hall.cell(0, asked));
            element("bound, least", () -> hall.bound(asked, false));
            element("bound, greatest", () -> hall.bound(asked, true));
            bounds("ranked", () -> hall.ranked(asked, 0));
            bounds("group", () -> hall.group(asked, 0, 1, asked));
            bounds("way", () -> hall.way(0, asked));
            bounds("bits", () -> hall.bits(0, asked));
        }
        bounds("row", () -> hall.row(0));
        due("purge", 0, hall.purge());
        due("all", 0, hall.all());
        due("append", 0, hall.append(1, 2, 3, 4L));
        due("where", 1, hall.where(0, EQUAL, 1L));
    }

    private static void objectsAreApart() {
        sentence("Promise 1: A new object (shares nothing with another one)");
        ColumnHall one = counted(40);
        one.where(0, LESS, 3L);
        ColumnHall two = new ColumnHall();
        due("rows of the second", 0, two.rows());
        due("all of the second", 0, two.all());
        two.append(99, 98, 97, 96L);
        due("cell of the first", 0, one.cell(0, 0));
        due("rows of the first", 40, one.rows());
        due("chosen of the first", 3, one.chosen());
        due("chosen of the second", 1, two.chosen());
        two.purge();
        due("rows of the first behind purge", 40, one.rows());
    }

    private static void promise2() {
        sentence("Promise 2: Illegal state: there are 128.");
        ColumnHall hall = counted(128);
        state("append of the least", () -> hall.append(LEAST_INT, LEAST_INT, LEAST_INT, LEAST_LONG));
        state("append of the greatest", () -> hall.append(GREATEST_INT, GREATEST_INT, GREATEST_INT, GREATEST_LONG));
        due("the last row", 127, hall.cell(127, 0));
        due("the sum", 81280, hall.sum(3));
        choosing(hall, 0, NOT_LESS, 127L);
        due("purge", 1, hall.purge());
        due("append, there are 127 again", 127, hall.append(1, 1, 1, 1L));
        state("append, there are 128 again", () -> hall.append(1, 1, 1, 1L));
        choosing(hall, 0, NOT_EQUAL, 0L);
        state("append, whatever is chosen", () -> hall.append(1, 1, 1, 1L));
    }

    private static void promise3() {
        sentence("Promise 3: How many rows there are.");
        for (int rows : new int[] {0, 1, 15, 16, 17, 127, 128}) {
            due("rows", rows, counted(rows).rows());
            due("rows, none chosen", rows, noneChosen(rows).rows());
        }
    }

    private static void promise4() {
        sentence("Promise 4: index out of bounds: there is no such row");
        for (int rows : new int[] {0, 1, 15, 16, 17, 127, 128}) {
            ColumnHall hall = counted(rows);
            for (int column = 0; column < 4; column++) {
                int asked = column;
                bounds("cell(" + rows + ", " + column + ")", () -> hall.cell(rows, asked));
                for (int row : FAR_INDEXES) {
                    bounds("cell(" + row + ", " + column + ")", () -> hall.cell(row, asked));
                }
            }
            if (rows > 0) {
                due("the last row", 10L * (rows - 1), hall.cell(rows - 1, 3));
                due("the first row", 7, hall.cell(0, 2));
            }
        }
        due("of a row that is not chosen", 19, noneChosen(20).cell(19, 0));
        ColumnHall less = choosing(counted(20), 0, LESS, 4L);
        less.purge();
        bounds("cell(16, 0) of 16 that are left", () -> less.cell(16, 0));
        due("cell(15, 0) of 16 that are left", 19, less.cell(15, 0));
    }

    private static void promise5() {
        sentence("Promise 5: Illegal argument: also if op is not 0 .. 5");
        ColumnHall hall = counted(20);
        for (int op : new int[] {LEAST_INT, -6, -1, 6, 7, 256, GREATEST_INT}) {
            for (int column = 0; column < 4; column++) {
                int asked = column;
                argument("where, op " + op, () -> hall.where(asked, op, 0L));
            }
        }
        due("no condition was added", 0, hall.all());
        for (int op = 0; op < 6; op++) {
            due("where, op " + op, op % 3 + 1, hall.where(0, op, 0L));
            if (op == 2) {
                hall.all();
            }
        }
        sentence("Promise 5: illegal state: there are three");
        for (int column = 0; column < 4; column++) {
            for (int op = 0; op < 6; op++) {
                int asked = column;
                int opAsked = op;
                state("a fourth one", () -> hall.where(asked, opAsked, 0L));
            }
        }
        due("three there were", 3, hall.all());
        sentence("Promise 5: Adds a condition: how many there are then");
        due("the first", 1, hall.where(0, EQUAL, 5L));
        due("the same again", 2, hall.where(0, EQUAL, 5L));
        due("the same once more", 3, hall.where(0, EQUAL, 5L));
        dueRows("three times the same", hall, 5);
    }

    private static void promise6() {
        sentence("Promise 6: Takes all conditions away: how many there were.");
        for (int conditions = 0; conditions <= 3; conditions++) {
            ColumnHall hall = counted(20);
            for (int i = 0; i < conditions; i++) {
                hall.where(0, LESS, i);
            }
            due("all", conditions, hall.all());
            due("chosen", 20, hall.chosen());
            due("blocks", 2, hall.blocks());
            due("all again", 0, hall.all());
            due("where", 1, hall.where(0, EQUAL, 7L));
            dueRows("the new one alone", hall, 7);
        }
    }

    private static void promise7() {
        sentence("Promise 7: How many rows are chosen.");
        for (int rows : new int[] {0, 1, 15, 16, 17, 127, 128}) {
            due("all", rows, counted(rows).chosen());
            due("none", 0, noneChosen(rows).chosen());
            due("all by a condition", rows, choosing(counted(rows), 2, EQUAL, 7L).chosen());
            due("all but the first", Math.max(0, rows - 1), choosing(counted(rows), 0, GREATER, 0L).chosen());
            due("the last alone", Math.min(1, rows), choosing(counted(rows), 0, EQUAL, rows - 1L).chosen());
        }
        ColumnHall hall = choosing(counted(16), 0, NOT_LESS, 15L);
        due("before a row is put", 1, hall.chosen());
        hall.append(15, 0, 0, 0L);
        due("a row put later", 2, hall.chosen());
        hall.append(14, 0, 0, 0L);
        due("a row put later that is not chosen", 2, hall.chosen());
        hall.purge();
        due("behind purge", 0, hall.chosen());
    }

    private static void promise8() {
        sentence("Promise 8: Index out of bounds: there is none.");
        for (int rows : new int[] {0, 1, 16, 17, 128}) {
            ColumnHall all = counted(rows);
            bounds("row(" + rows + ")", () -> all.row(rows));
            ColumnHall none = noneChosen(rows);
            bounds("row(0), none chosen", () -> none.row(0));
            for (int k : FAR_INDEXES) {
                bounds("row(" + k + ")", () -> all.row(k));
                bounds("row(" + k + "), none chosen", () -> none.row(k));
            }
        }
        ColumnHall some = choosing(counted(128), 1, EQUAL, 2L);
        bounds("row(42) of 42", () -> some.row(42));
        sentence("Promise 8: The number of the k-th (from 0) chosen row.");
        for (int k = 0; k < 42; k++) {
            due("row(" + k + ")", 3 * k + 2, some.row(k));
        }
        dueRows("the first alone", choosing(counted(128), 0, LESS, 1L), 0);
        dueRows("the last alone", choosing(counted(128), 0, GREATER, 126L), 127);
        dueRows("on both sides of a block's end", choosingFrom15To16(), 15, 16);
    }

    private static ColumnHall choosingFrom15To16() {
        ColumnHall hall = counted(40);
        hall.where(0, NOT_LESS, 15L);
        hall.where(0, NOT_GREATER, 16L);
        return hall;
    }

    private static void promise9() {
        sentence("Promise 9: How many blocks have rows and are not passed over.");
        for (int rows = 0; rows <= 128; rows++) {
            due("blocks, " + rows + " rows", (rows + 15) / 16, counted(rows).blocks());
        }
        ColumnHall full = counted(128);
        for (int block = 0; block < 8; block++) {
            due("blocks from " + block + " on", 8 - block, choosing(full, 0, NOT_LESS, 16L * block).blocks());
            due("blocks before " + block, block, choosing(full, 0, LESS, 16L * block).blocks());
        }
        due("blocks, all passed over", 0, choosing(full, 0, LESS, 0L).blocks());
        sentence("Promise 9: (One that is not full is never passed over.)");
        for (int rows = 1; rows < 16; rows++) {
            for (int op = 0; op < 6; op++) {
                long value = op == NOT_EQUAL ? 7L : op < EQUAL ? LEAST_LONG : GREATEST_LONG;
                due("blocks, " + rows + " rows, op " + op, 1, choosing(counted(rows), 2, op, value).blocks());
            }
        }
        ColumnHall less = choosing(counted(16), 0, EQUAL, 3L);
        due("purge", 1, less.purge());
        due("blocks, full no more", 1, less.blocks());
        due("chosen", 0, less.chosen());
        less.append(99, 0, 0, 0L);
        due("blocks, full again", 1, less.blocks());
        due("blocks, full again and passed over", 0, choosing(less, 0, GREATER, 99L).blocks());
    }

    private static void promise10() {
        sentence("Promise 10: in all chosen rows (none, one, all)");
        for (int column = 0; column < 4; column++) {
            due("no rows", 0, counted(0).sum(column));
            due("none chosen, not full", 0, noneChosen(15).sum(column));
            due("none chosen, full", 0, noneChosen(16).sum(column));
        }
        due("one chosen", 150, choosing(counted(40), 0, EQUAL, 15L).sum(3));
        due("all of 128", 896, counted(128).sum(2));
        due("those of the chosen alone", 31, choosingFrom15To16().sum(0));
        sentence("Promise 10: in longs that wrap");
        due("one above the greatest", LEAST_LONG, filled(3, GREATEST_LONG, 1).sum(3));
        due("one below the least", GREATEST_LONG, filled(3, LEAST_LONG, -1).sum(3));
        due("twice the least", 0, filled(3, LEAST_LONG, LEAST_LONG).sum(3));
        due("twice the greatest", -2, filled(3, GREATEST_LONG, GREATEST_LONG).sum(3));
        due("over and back", GREATEST_LONG, filled(3, GREATEST_LONG, 1, -1).sum(3));
        due("sixteen times the greatest", -16, filled(3, sixteen(GREATEST_LONG)).sum(3));
        due("to the last figure", GREATEST_LONG - 2, filled(3, GREATEST_LONG - 3, 1).sum(3));
        for (int column = 0; column < 3; column++) {
            due("ints don't wrap above", 16L * GREATEST_INT, filled(column, sixteen(GREATEST_INT)).sum(column));
            due("ints don't wrap below", 16L * LEAST_INT, filled(column, sixteen(LEAST_INT)).sum(column));
        }
    }

    private static void promise11() {
        sentence("Promise 11: no such element: none is chosen");
        for (int rows : new int[] {0, 1, 15, 16, 17, 128}) {
            ColumnHall hall = noneChosen(rows);
            for (int column = 0; column < 4; column++) {
                int asked = column;
                element("bound(" + column + ", false)", () -> hall.bound(asked, false));
                element("bound(" + column + ", true)", () -> hall.bound(asked, true));
            }
        }
        sentence("Promise 11: The least cell (most: the greatest one) of a column in the chosen rows.");
        for (int column = 0; column < 4; column++) {
            long least = column == 3 ? LEAST_LONG : LEAST_INT;
            long greatest = column == 3 ? GREATEST_LONG : GREATEST_INT;
            for (int at = 0; at < 3; at++) {
                long[] cells = {0, 0, 0};
                cells[at] = least;
                due("least at " + at, least, filled(column, cells).bound(column, false));
                due("greatest beside it", 0, filled(column, cells).bound(column, true));
                cells[at] = greatest;
                due("greatest at " + at, greatest, filled(column, cells).bound(column, true));
                due("least beside it", 0, filled(column, cells).bound(column, false));
            }
            due("one row, least", least, filled(column, least).bound(column, false));
            due("one row, greatest", least, filled(column, least).bound(column, true));
            due("all above 0", 2, filled(column, 4, 2, 3).bound(column, false));
            due("all below 0", -2, filled(column, -4, -2, -3).bound(column, true));
        }
        ColumnHall some = choosingFrom15To16();
        due("the least of the chosen, not of their block", 15, some.bound(0, false));
        due("the greatest of the chosen, not of their block", 160, some.bound(3, true));
    }

    private static void promise12() {
        sentence("Promise 12: index out of bounds: there is none");
        for (int rows : new int[] {0, 1, 16, 17, 128}) {
            ColumnHall all = counted(rows);
            ColumnHall none = noneChosen(rows);
            for (int column = 0; column < 4; column++) {
                int asked = column;
                bounds("ranked(" + column + ", " + rows + ")", () -> all.ranked(asked, rows));
                bounds("ranked(" + column + ", 0), none chosen", () -> none.ranked(asked, 0));
                for (int k : FAR_INDEXES) {
                    bounds("ranked(" + column + ", " + k + ")", () -> all.ranked(asked, k));
                }
            }
        }
        bounds("ranked behind the chosen", () -> choosingFrom15To16().ranked(0, 2));
        sentence("Promise 12: ordered by the cells of a column, the greatest first");
        ColumnHall full = counted(128);
        for (int k = 0; k < 128; k++) {
            due("ranked(3, " + k + ")", 127 - k, full.ranked(3, k));
        }
        int[] order = {2, 4, 0, 3, 1};
        for (int k = 0; k < 5; k++) {
            due("ints, " + k, order[k], filled(0, 0, LEAST_INT, GREATEST_INT, -1, 1).ranked(0, k));
            due("longs, " + k, order[k], filled(3, 0, LEAST_LONG, GREATEST_LONG, -1, 1).ranked(3, k));
        }
        due("the first of the chosen", 16, choosingFrom15To16().ranked(0, 0));
        due("the last of the chosen", 15, choosingFrom15To16().ranked(0, 1));
        sentence("Promise 12: equal ones by their numbers. (The least of these first.)");
        for (int k = 0; k < 128; k++) {
            due("all equal, " + k, k, full.ranked(2, k));
        }
        for (int k = 0; k < 128; k++) {
            due("by threes, " + k, k < 42 ? 3 * k + 2 : k < 85 ? 3 * (k - 42) + 1 : 3 * (k - 85), full.ranked(1, k));
        }
    }

    private static void promise13() {
        sentence("Promise 13: How many different cells a column has in the chosen rows (none, one, all)");
        for (int column = 0; column < 4; column++) {
            due("no rows", 0, counted(0).groups(column));
            due("none chosen", 0, noneChosen(40).groups(column));
            due("one row", 1, counted(1).groups(column));
            due("one chosen", 1, choosing(counted(40), 0, EQUAL, 39L).groups(column));
            due("128 rows", new int[] {128, 3, 1, 128}[column], counted(128).groups(column));
            due("two chosen", new int[] {2, 2, 1, 2}[column], choosingFrom15To16().groups(column));
            due("equal ones apart", 2, filled(column, 1, 2, 1, 2, 2, 1).groups(column));
            due("0 and what is near it", 3, filled(column, 0, -1, 1, 0).groups(column));
        }
        due("different in the upper half alone", 2, filled(3, 5, 5 + (1L << 32)).groups(3));
        due("both ends", 2, filled(3, LEAST_LONG, GREATEST_LONG).groups(3));
    }

    private static void promise14Refused() {
        sentence("Promise 14: Illegal argument: also if of is not 0 .. 3");
        ColumnHall hall = counted(20);
        for (int of : NO_COLUMNS) {
            for (int what = 0; what < 5; what++) {
                int asked = what;
                argument("group(0, 0, " + what + ", " + of + ")", () -> hall.group(0, 0, asked, of));
            }
        }
        sentence("Promise 14: or what not 0 .. 4");
        for (int what : new int[] {LEAST_INT, -5, -1, 5, 6, 256, GREATEST_INT}) {
            for (int of = 0; of < 4; of++) {
                int asked = of;
                argument("group(0, 0, " + what + ", " + of + ")", () -> hall.group(0, 0, what, asked));
            }
        }
        sentence("Promise 14: index out of bounds: there is no such group");
        for (int what = 0; what < 5; what++) {
            int asked = what;
            bounds("group behind the last, of three", () -> hall.group(1, 3, asked, 0));
            bounds("group behind the last, of one", () -> hall.group(2, 1, asked, 0));
            bounds("group behind the last, of twenty", () -> hall.group(3, 20, asked, 0));
            bounds("group, no rows", () -> counted(0).group(1, 0, asked, 0));
            bounds("group, none chosen", () -> noneChosen(20).group(1, 0, asked, 0));
            bounds("group of rows that are not chosen", () -> choosingFrom15To16().group(1, 2, asked, 0));
            for (int k : FAR_INDEXES) {
                bounds("group " + k, () -> hall.group(1, k, asked, 0));
            }
        }
    }

    private static void promise14() {
        sentence("Promise 14: what = 0: its cell; 1: how many rows it has; 2, 3, 4: the sum, the least, the greatest");
        // By column 1: the rows 0, 3, .. 126 are group 0, the rows 1, 4, .. 127 group 1, the rest group 2.
        ColumnHall hall = counted(128);
        long[][] want = {{0, 43, 27090, 0, 1260}, {1, 43, 27520, 10, 1270}, {2, 42, 26670, 20, 1250}};
        for (int k = 0; k < 3; k++) {
            for (int what = 0; what < 5; what++) {
                due("group(1, " + k + ", " + what + ", 3)", want[k][what], hall.group(1, k, what, 3));
            }
        }
        ColumnHall one = filled(3, LEAST_LONG);
        due("a group of one row: its cell", LEAST_LONG, one.group(3, 0, 0, 0));
        due("a group of one row: how many", 1, one.group(3, 0, 1, 3));
        due("a group of one row: least", LEAST_LONG, one.group(3, 0, 3, 3));
        due("a group of one row: greatest", LEAST_LONG, one.group(3, 0, 4, 3));
        due("a group of all rows", 128, hall.group(2, 0, 1, 0));
        due("the last of 128 groups", 1270, hall.group(3, 127, 0, 0));
        sentence("Promise 13: numbered 0, 1, .. by rising cells");
        long[] ends = {LEAST_LONG, LEAST_INT, -1, 0, 1, GREATEST_INT, GREATEST_LONG};
        ColumnHall mixed = filled(3, 0, GREATEST_LONG, -1, LEAST_LONG, GREATEST_INT, 1, LEAST_INT);
        for (int k = 0; k < ends.length; k++) {
            due("cell of group " + k, ends[k], mixed.group(3, k, 0, 3));
        }
        sentence("Promise 13: each of all chosen rows with one of these");
        ColumnHall some = choosing(hall, 0, NOT_LESS, 126L);
        due("rows 126 and 127: groups", 2, some.groups(1));
        due("how many rows", 1, some.group(1, 0, 1, 0));
        due("the sum", 1260, some.group(1, 0, 2, 3));
    }

    private static void promise14Wraps() {
        sentence("Promise 14: the sum (in longs that wrap)");
        ColumnHall hall = new ColumnHall();
        hall.append(1, GREATEST_INT, LEAST_INT, GREATEST_LONG);
        hall.append(2, 0, 0, LEAST_LONG);
        hall.append(1, GREATEST_INT, LEAST_INT, 1L);
        hall.append(2, 0, 0, -1L);
        due("above the greatest", LEAST_LONG, hall.group(0, 0, 2, 3));
        due("below the least", GREATEST_LONG, hall.group(0, 1, 2, 3));
        due("to the last figure", LEAST_LONG + 3, filled(3, LEAST_LONG + 1, 2).group(0, 0, 2, 3));
        due("ints don't wrap above", 2L * GREATEST_INT, hall.group(0, 0, 2, 1));
        due("ints don't wrap below", 2L * LEAST_INT, hall.group(0, 0, 2, 2));
        due("least", 1, hall.group(0, 0, 3, 3));
        due("greatest", -1, hall.group(0, 1, 4, 3));
    }

    private static void promise15() {
        sentence("Promise 15: How many pairs of chosen rows there are (none, one row, two, all)");
        for (int one = 0; one < 4; one++) {
            for (int two = 0; two < 4; two++) {
                due("no rows", 0, counted(0).pairs(one, two));
                due("none chosen", 0, noneChosen(40).pairs(one, two));
                due("one row is no pair", 0, filled(0, 0).pairs(one, two));
                due("two rows", 1, filled(0, 0, 0).pairs(one, two));
            }
        }
        due("all of 128", 8128, counted(128).pairs(2, 2));
        due("one chosen is no pair with the others", 0, choosing(counted(128), 0, EQUAL, 127L).pairs(2, 2));
        due("two chosen", 1, choosingFrom15To16().pairs(2, 2));
        sentence("Promise 15: the first one with the lesser number, in which column one of the first row and column"
                + " two of the second have equal cells");
        ColumnHall hall = new ColumnHall();
        hall.append(1, 2, 0, 0L);
        hall.append(3, 1, 0, 0L);
        due("one of the first is two of the second", 1, hall.pairs(0, 1));
        due("two of the first is not one of the second", 0, hall.pairs(1, 0));
        due("a row alone has equal cells", 1, filled(0, 0, 7).pairs(0, 1));
        sentence("Promise 15: have equal cells (ints and longs)");
        ColumnHall below = new ColumnHall();
        below.append(-1, 0, 0, 5L);
        below.append(6, 0, 0, -1L);
        due("-1 as int and as long", 1, below.pairs(0, 3));
        ColumnHall upper = new ColumnHall();
        upper.append(-1, 8, 0, 5L);
        upper.append(6, 0, 0, 0xFFFFFFFFL);
        upper.append(6, 0, 0, 8L + (1L << 32));
        due("-1 is not 2^32 - 1", 0, upper.pairs(0, 3));
        due("8 is not 2^32 + 8", 0, upper.pairs(1, 3));
    }

    private static void promises16And17() {
        sentence("Promises 16, 17: index out of bounds: there is no such block");
        for (int rows : new int[] {0, 16, 128}) {
            ColumnHall hall = counted(rows);
            for (int column = 0; column < 4; column++) {
                int asked = column;
                bounds("way(" + rows / 16 + ", " + column + ")", () -> hall.way(rows / 16, asked));
                bounds("bits(" + rows / 16 + ", " + column + ")", () -> hall.bits(rows / 16, asked));
                for (int block : FAR_INDEXES) {
                    bounds("way(" + block + ", " + column + ")", () -> hall.way(block, asked));
                    bounds("bits(" + block + ", " + column + ")", () -> hall.bits(block, asked));
                }
            }
        }
        sentence("Promises 16, 17: or it is not full");
        for (int rows = 17; rows < 32; rows++) {
            ColumnHall hall = counted(rows);
            for (int column = 0; column < 4; column++) {
                int asked = column;
                bounds("way(1, " + column + ") with " + rows + " rows", () -> hall.way(1, asked));
                bounds("bits(1, " + column + ") with " + rows + " rows", () -> hall.bits(1, asked));
            }
            due("bits(0, 0)", 103, hall.bits(0, 0));
        }
        ColumnHall less = choosing(counted(32), 0, EQUAL, 0L);
        less.purge();
        bounds("way, full no more", () -> less.way(1, 0));
        bounds("bits, full no more", () -> less.bits(1, 0));
        less.append(0, 0, 0, 0L);
        due("way, full again", OFFSETS, less.way(1, 0));
        due("bits, full again", 39 + 16 * 5, less.bits(1, 0));
        sentence("Promises 16, 17: of a column in a block (whatever is chosen)");
        ColumnHall none = noneChosen(128);
        due("way(7, 3), passed over", OFFSETS, none.way(7, 3));
        due("bits(7, 3), passed over", 71 + 16 * 8, none.bits(7, 3));
    }

    /** Cells that are packed in a way of its own: in each, plain ones too, block 0 was packed before. */
    private static long cellFor(int way, int i) {
        return way == PLAIN ? far(0, i) : way == RUNS ? far(0, i / 8) : way == WORDS ? far(0, i % 2) : i;
    }

    private static void blocksPackedAnew() {
        sentence("Promises 16, 17: the way of a column in a block (packed anew)");
        int[] bits = {512, 74, 80, 103};
        for (int before = 0; before < 4; before++) {
            for (int way = 0; way < 4; way++) {
                ColumnHall refilled = new ColumnHall();
                ColumnHall moved = new ColumnHall();
                for (int i = 0; i < 32; i++) {
                    long cell = cellFor(i < 16 ? before : way, i % 16);
                    refilled.append((int) cell, (int) cell, i / 16, 0L);
                    moved.append((int) cell, (int) cell, i / 16, 0L);
                    if (i == 15) {
                        due("purge", 16, refilled.purge());
                    }
                }
                choosing(moved, 2, EQUAL, 0L).purge();
                for (int column = 0; column < 2; column++) {
                    packed("put behind purge, " + before + " before", refilled, column, way, bits[way]);
                    packed("moved by purge, " + before + " before", moved, column, way, bits[way]);
                }
            }
        }
    }

    private static void promise18Counts() {
        sentence("Promise 18: Takes all chosen rows away .. How many were taken.");
        for (int rows : new int[] {0, 1, 15, 16, 17, 128}) {
            ColumnHall none = noneChosen(rows);
            due("purge, none chosen", 0, none.purge());
            due("rows, none chosen", rows, none.rows());
            ColumnHall first = choosing(counted(rows), 0, EQUAL, 0L);
            due("purge, the first chosen", Math.min(1, rows), first.purge());
            due("rows, the first chosen", Math.max(0, rows - 1), first.rows());
            ColumnHall last = choosing(counted(rows), 0, EQUAL, rows - 1L);
            due("purge, the last chosen", Math.min(1, rows), last.purge());
            due("rows, the last chosen", Math.max(0, rows - 1), last.rows());
            due("none is left to choose", 0, last.chosen());
            due("purge again", 0, last.purge());
        }
        sentence("Promise 18: without any, all go");
        for (int rows : new int[] {0, 1, 15, 16, 17, 128}) {
            ColumnHall hall = counted(rows);
            due("purge", rows, hall.purge());
            due("rows", 0, hall.rows());
            due("chosen", 0, hall.chosen());
            due("blocks", 0, hall.blocks());
            due("purge again", 0, hall.purge());
            bounds("cell", () -> hall.cell(0, 0));
            bounds("row", () -> hall.row(0));
            bounds("way", () -> hall.way(0, 0));
            due("append", 0, hall.append(5, 5, 5, 5L));
            due("chosen behind append", 1, hall.chosen());
        }
    }

    private static void promise18Numbers() {
        sentence("Promise 18: the others get numbers anew, in their order");
        ColumnHall odd = choosing(counted(128), 1, NOT_EQUAL, 1L);
        due("purge", 85, odd.purge());
        for (int i = 0; i < 43; i++) {
            due("cell(" + i + ", 0)", 3 * i + 1, odd.cell(i, 0));
            due("cell(" + i + ", 1)", 1, odd.cell(i, 1));
            due("cell(" + i + ", 2)", 7, odd.cell(i, 2));
            due("cell(" + i + ", 3)", 10L * (3 * i + 1), odd.cell(i, 3));
        }
        bounds("cell(43, 0)", () -> odd.cell(43, 0));
        due("append", 43, odd.append(1000, 0, 0, 0L));
        odd.all();
        due("row(43)", 43, odd.row(43));
        due("the greatest", 43, odd.ranked(0, 0));
        due("the next one", 42, odd.ranked(0, 1));
    }

    private static void promise18Conditions() {
        sentence("Promise 18: (Conditions stay");
        for (int conditions = 0; conditions <= 3; conditions++) {
            ColumnHall hall = counted(40);
            for (int i = 0; i < conditions; i++) {
                hall.where(0, NOT_LESS, 10L + i);
            }
            due("purge", conditions == 0 ? 40 : 29 - conditions + 2, hall.purge());
            hall.append(50, 0, 0, 0L);
            hall.append(5, 0, 0, 0L);
            due("chosen of two new rows", conditions == 0 ? 2 : 1, hall.chosen());
            due("all", conditions, hall.all());
        }
    }

    private static void promise18Blocks() {
        sentence("Promise 18: the others get numbers anew (and so are in other blocks)");
        ColumnHall hall = choosing(counted(48), 0, LESS, 8L);
        hall.purge();
        hall.all();
        due("blocks", 3, hall.blocks());
        // The blocks have the cells 8 .. 23 and 24 .. 39 now; 40 .. 47 are in none that is full.
        due("blocks with 8 .. 23", 2, choosing(hall, 0, LESS, 24L).blocks());
        due("blocks with 24 .. 39", 2, choosing(hall, 0, EQUAL, 24L).blocks());
        due("blocks with neither", 1, choosing(hall, 0, LESS, 8L).blocks());
        due("bits", 39 + 16 * 4, hall.bits(0, 0));
        bounds("way(2, 0)", () -> hall.way(2, 0));
        for (int i = 0; i < 8; i++) {
            hall.append(40, 0, 0, 0L);
        }
        due("bits of the block filled anew", 39 + 16 * 3, hall.bits(2, 0));
        due("blocks with neither, all full", 0, hall.blocks());
        ColumnHall flat = new ColumnHall();
        for (int i = 0; i < 32; i++) {
            flat.append(i % 2, 0, 0, 0L);
        }
        choosing(flat, 0, EQUAL, 1L).purge();
        due("way of what is left", WORDS, flat.way(0, 0));
        due("bits of what is left", 32, flat.bits(0, 0));
        due("blocks", 0, flat.blocks());
        due("blocks, not equal to the cell that is left", 0, choosing(flat, 0, NOT_EQUAL, 0L).blocks());
        due("blocks, not equal to the cell that went", 1, choosing(flat, 0, NOT_EQUAL, 1L).blocks());
    }

    /** The rows 17, 20, .. 119 of 128. */
    private static ColumnHall threeOf128() {
        ColumnHall hall = counted(128);
        hall.where(0, NOT_LESS, 17L);
        hall.where(3, LESS, 1200L);
        hall.where(1, EQUAL, 2L);
        return hall;
    }

    /** One method, a sentence for each promise that asks of the chosen rows: all is as full as it can be. */
    private static void threeConditionsIn128Rows() {
        ColumnHall hall = threeOf128();
        sentence("Promise 7: chosen (three conditions, 128 rows)");
        due("chosen", 35, hall.chosen());
        sentence("Promise 8: row (three conditions, 128 rows)");
        due("row(0)", 17, hall.row(0));
        due("row(34)", 119, hall.row(34));
        bounds("row(35)", () -> hall.row(35));
        sentence("Promise 9: blocks (three conditions, 128 rows)");
        due("blocks", 7, hall.blocks());
        sentence("Promise 10: sum (three conditions, 128 rows)");
        due("sum(0)", 2380, hall.sum(0));
        due("sum(1)", 70, hall.sum(1));
        due("sum(3)", 23800, hall.sum(3));
        sentence("Promise 11: bound (three conditions, 128 rows)");
        due("bound(0, false)", 17, hall.bound(0, false));
        due("bound(3, true)", 1190, hall.bound(3, true));
        sentence("Promise 12: ranked (three conditions, 128 rows)");
        due("ranked(0, 0)", 119, hall.ranked(0, 0));
        due("ranked(0, 34)", 17, hall.ranked(0, 34));
        due("ranked(2, 34)", 119, hall.ranked(2, 34));
        bounds("ranked(0, 35)", () -> hall.ranked(0, 35));
        sentence("Promise 13: groups (three conditions, 128 rows)");
        due("groups(0)", 35, hall.groups(0));
        due("groups(1)", 1, hall.groups(1));
        sentence("Promise 14: group (three conditions, 128 rows)");
        due("group(0, 34, 0, 0)", 119, hall.group(0, 34, 0, 0));
        due("group(1, 0, 1, 0)", 35, hall.group(1, 0, 1, 0));
        due("group(1, 0, 2, 3)", 23800, hall.group(1, 0, 2, 3));
        due("group(1, 0, 3, 3)", 170, hall.group(1, 0, 3, 3));
        due("group(1, 0, 4, 3)", 1190, hall.group(1, 0, 4, 3));
        bounds("group(1, 1, 1, 0)", () -> hall.group(1, 1, 1, 0));
        sentence("Promise 15: pairs (three conditions, 128 rows)");
        due("pairs(2, 2)", 595, hall.pairs(2, 2));
        due("pairs(0, 0)", 0, hall.pairs(0, 0));
        sentence("Promise 18: purge (three conditions, 128 rows)");
        due("purge", 35, hall.purge());
        due("rows", 93, hall.rows());
        due("all", 3, hall.all());
        due("sum", 81280 - 23800, hall.sum(3));
    }

    private static final Runnable[] TESTS = {
        EdgesTest::useFor512Calls,
        EdgesTest::cellsOfColumns,
        EdgesTest::rowsAreNumbered,
        EdgesTest::atMost128Rows,
        EdgesTest::blocksOfSixteen,
        EdgesTest::fullBlock,
        EdgesTest::conditionsAreAtMostThree,
        EdgesTest::ops,
        EdgesTest::anyLongAsValue,
        EdgesTest::chosenIfAllHold,
        EdgesTest::allAreWithoutAny,
        EdgesTest::passedOver,
        EdgesTest::passedOverWithOneCell,
        EdgesTest::passedOverAtTheEndsOfLongs,
        EdgesTest::boundsOfAllSixteen,
        EdgesTest::passedOverForSomeCondition,
        EdgesTest::passedOverByThatColumnAndBlock,
        EdgesTest::plain,
        EdgesTest::widthOfZero,
        EdgesTest::runs,
        EdgesTest::runsEndAtTheBlock,
        EdgesTest::words,
        EdgesTest::offsets,
        EdgesTest::smallOffsets,
        EdgesTest::offsetsByWholeNumbers,
        EdgesTest::tiesGoToTheLeastNumber,
        EdgesTest::columnsArePackedAlone,
        EdgesTest::refusedChangesNothing,
        EdgesTest::firstNamedException,
        EdgesTest::noSuchColumn,
        EdgesTest::promise1,
        EdgesTest::objectsAreApart,
        EdgesTest::promise2,
        EdgesTest::promise3,
        EdgesTest::promise4,
        EdgesTest::promise5,
        EdgesTest::promise6,
        EdgesTest::promise7,
        EdgesTest::promise8,
        EdgesTest::promise9,
        EdgesTest::promise10,
        EdgesTest::promise11,
        EdgesTest::promise12,
        EdgesTest::promise13,
        EdgesTest::promise14Refused,
        EdgesTest::promise14,
        EdgesTest::promise14Wraps,
        EdgesTest::promise15,
        EdgesTest::promises16And17,
        EdgesTest::blocksPackedAnew,
        EdgesTest::threeConditionsIn128Rows,
        EdgesTest::promise18Counts,
        EdgesTest::promise18Numbers,
        EdgesTest::promise18Conditions,
        EdgesTest::promise18Blocks
    };

    public static void main(String[] args) {
        for (Runnable test : TESTS) {
            try {
                test.run();
            } catch (RuntimeException e) {
                fault("a call that should answer threw " + e);
            }
        }
        System.out.println(wrong == 0 ? "all " + sentences + " sentences hold" : wrong + " answers are not as due");
        if (wrong != 0) {
            System.exit(1);
        }
    }
}
