import java.util.NoSuchElementException;

/**
 * A table that is kept by columns. The numbers of the promises are those of the document.
 *
 * <p>All arrays are made once, in the constructor, and used again by every call: no call makes
 * an object but the exception that it throws.
 */
public final class ColumnHall {
    private static final int COLUMNS = 4;
    private static final int MOST_ROWS = 128;
    private static final int BLOCK_ROWS = 16;
    private static final int MOST_BLOCKS = MOST_ROWS / BLOCK_ROWS;
    private static final int MOST_CONDITIONS = 3;

    private static final int LONG_COLUMN = 3;
    private static final int INT_BITS = 32;
    private static final int LONG_BITS = 64;

    private static final int LESS = 0;
    private static final int NOT_GREATER = 1;
    private static final int EQUAL = 2;
    private static final int NOT_LESS = 3;
    private static final int GREATER = 4;
    private static final int NOT_EQUAL = 5;

    private static final int PLAIN = 0;
    private static final int RUNS = 1;
    private static final int WORDS = 2;
    private static final int OFFSETS = 3;
    private static final int RUN_LENGTH_BITS = 5;
    private static final int OFFSET_WIDTH_BITS = 7;

    private static final int GROUP_CELL = 0;
    private static final int GROUP_SIZE = 1;
    private static final int GROUP_SUM = 2;
    private static final int GROUP_LEAST = 3;
    private static final int GROUP_GREATEST = 4;

    /** Column behind column, each with room for all rows. */
    private final long[] cells;
    private int rowCount;

    private final int[] conditionColumns;
    private final int[] conditionOps;
    private final long[] conditionValues;
    private int conditionCount;

    /** What is known of each column of each full block: see place(). */
    private final long[] leastCells;
    private final long[] greatestCells;
    private final int[] bestWays;
    private final int[] bestBits;

    /** The rows that the present call works on; worth nothing between calls. */
    private final int[] picked;

    /** Promise 1. */
    public ColumnHall() {
        cells = new long[COLUMNS * MOST_ROWS];
        rowCount = 0;
        conditionColumns = new int[MOST_CONDITIONS];
        conditionOps = new int[MOST_CONDITIONS];
        conditionValues = new long[MOST_CONDITIONS];
        conditionCount = 0;
        leastCells = new long[COLUMNS * MOST_BLOCKS];
        greatestCells = new long[COLUMNS * MOST_BLOCKS];
        bestWays = new int[COLUMNS * MOST_BLOCKS];
        bestBits = new int[COLUMNS * MOST_BLOCKS];
        picked = new int[MOST_ROWS];
    }

    /** Promise 2. */
    public int append(int a, int b, int c, long d) throws IllegalStateException {
        if (rowCount >= MOST_ROWS) {
            throw new IllegalStateException("there is no room for a row");
        }
        int number = rowCount;
        cells[spot(number, 0)] = a;
        cells[spot(number, 1)] = b;
        cells[spot(number, 2)] = c;
        cells[spot(number, LONG_COLUMN)] = d;
        rowCount = number + 1;
        if (rowCount % BLOCK_ROWS == 0) {
            packBlock(number / BLOCK_ROWS);
        }
        return number;
    }

    /** Promise 3. */
    public int rows() {
        return rowCount;
    }

    /** Promise 4. */
    public long cell(int row, int column) throws IllegalArgumentException, IndexOutOfBoundsException {
        refuseBadColumn(column);
        if (row < 0 || row >= rowCount) {
            throw new IndexOutOfBoundsException("there is no such row");
        }
        return cells[spot(row, column)];
    }

    /** Promise 5. */
    public int where(int column, int op, long value) throws IllegalArgumentException, IllegalStateException {
        refuseBadColumn(column);
        if (op < LESS || op > NOT_EQUAL) {
            throw new IllegalArgumentException("there is no such op");
        }
        if (conditionCount >= MOST_CONDITIONS) {
            throw new IllegalStateException("there is no room for a condition");
        }
        conditionColumns[conditionCount] = column;
        conditionOps[conditionCount] = op;
        conditionValues[conditionCount] = value;
        conditionCount++;
        return conditionCount;
    }

    /** Promise 6. */
    public int all() {
        int taken = conditionCount;
        conditionCount = 0;
        return taken;
    }

    /** Promise 7. */
    public int chosen() {
        return pick();
    }

    /** Promise 8. */
    public int row(int k) throws IndexOutOfBoundsException {
        int size = pick();
        if (k < 0 || k >= size) {
            throw new IndexOutOfBoundsException("there is no such chosen row");
        }
        return picked[k];
    }

    /** Promise 9. */
    public int blocks() {
        int found = 0;
        for (int block = 0; block < startedBlocks(); block++) {
            if (!isPassedOver(block)) {
                found++;
            }
        }
        return found;
    }

    /** Promise 10. */
    public long sum(int column) throws IllegalArgumentException {
        refuseBadColumn(column);
        int size = pick();
        return sumOfPicked(column, 0, size);
    }

    /** Promise 11. */
    public long bound(int column, boolean most) throws IllegalArgumentException, NoSuchElementException {
        refuseBadColumn(column);
        int size = pick();
        if (size == 0) {
            throw new NoSuchElementException("no row is chosen");
        }
        return boundOfPicked(column, most, 0, size);
    }

    /** Promise 12. */
    public int ranked(int column, int k) throws IllegalArgumentException, IndexOutOfBoundsException {
        refuseBadColumn(column);
        int size = pick();
        if (k < 0 || k >= size) {
            throw new IndexOutOfBoundsException("there is no such chosen row");
        }
        sortPicked(size, column, true);
        return picked[k];
    }

    /** Promise 13. */
    public int groups(int column) throws IllegalArgumentException {
        refuseBadColumn(column);
        int size = pick();
        sortPicked(size, column, false);
        int found = 0;
        for (int i = 0; i < size; i++) {
            if (startsGroup(i, column)) {
                found++;
            }
        }
        return found;
    }

    /** Promise 14. */
    public long group(int column, int k, int what, int of)
            throws IllegalArgumentException, IndexOutOfBoundsException {
        refuseBadColumn(column);
        refuseBadColumn(of);
        if (what < GROUP_CELL || what > GROUP_GREATEST) {
            throw new IllegalArgumentException("a group has nothing of this kind");
        }
        int size = pick();
        sortPicked(size, column, false);
        int from = groupStart(k, column, size);
        if (from < 0) {
            throw new IndexOutOfBoundsException("there is no such group");
        }
        int to = groupEnd(from, column, size);
        switch (what) {
            case GROUP_CELL:
                return cells[spot(picked[from], column)];
            case GROUP_SIZE:
                return to - from;
            case GROUP_SUM:
                return sumOfPicked(of, from, to);
            case GROUP_LEAST:
                return boundOfPicked(of, false, from, to);
            default:
                return boundOfPicked(of, true, from, to);
        }
    }

    /** Promise 15. */
    public int pairs(int one, int two) throws IllegalArgumentException {
        refuseBadColumn(one);
        refuseBadColumn(two);
        int size = pick();
        int found = 0;
        for (int second = 1; second < size; second++) {
            long sought = cells[spot(picked[second], two)];
            for (int first = 0; first < second; first++) {
                if (cells[spot(picked[first], one)] == sought) {
                    found++;
                }
            }
        }
        return found;
    }

    /** Promise 16. */
    public int way(int block, int column) throws IllegalArgumentException, IndexOutOfBoundsException {
        refuseBadColumn(column);
        refuseUnpackedBlock(block);
        return bestWays[place(block, column)];
    }

    /** Promise 17. */
    public int bits(int block, int column) throws IllegalArgumentException, IndexOutOfBoundsException {
        refuseBadColumn(column);
        refuseUnpackedBlock(block);
        return bestBits[place(block, column)];
    }

    /** Promise 18. */
    public int purge() {
        int taken = pick();
        int kept = 0;
        int next = 0;
        for (int row = 0; row < rowCount; row++) {
            if (next < taken && picked[next] == row) {
                next++;
            } else {
                moveRow(row, kept);
                kept++;
            }
        }
        rowCount = kept;
        packFullBlocks();
        return taken;
    }

    private static void refuseBadColumn(int column) {
        if (column < 0 || column >= COLUMNS) {
            throw new IllegalArgumentException("there is no such column");
        }
    }

    private void refuseUnpackedBlock(int block) {
        if (block < 0 || block >= fullBlocks()) {
            throw new IndexOutOfBoundsException("there is no such full block");
        }
    }

    /** Where a cell stands in the cells. */
    private static int spot(int row, int column) {
        return column * MOST_ROWS + row;
    }

    /** Where what is known of a column of a full block stands. */
    private static int place(int block, int column) {
        return block * COLUMNS + column;
    }

    private int fullBlocks() {
        return rowCount / BLOCK_ROWS;
    }

    private int startedBlocks() {
        return (rowCount + BLOCK_ROWS - 1) / BLOCK_ROWS;
    }

    private void moveRow(int from, int to) {
        for (int column = 0; column < COLUMNS; column++) {
            cells[spot(to, column)] = cells[spot(from, column)];
        }
    }

    /** Puts the chosen rows into picked, by rising numbers: how many they are. */
    private int pick() {
        int size = 0;
        for (int block = 0; block < startedBlocks(); block++) {
            if (!isPassedOver(block)) {
                size = pickFromBlock(block, size);
            }
        }
        return size;
    }

    private int pickFromBlock(int block, int sizeBefore) {
        int size = sizeBefore;
        int end = Math.min(rowCount, (block + 1) * BLOCK_ROWS);
        for (int row = block * BLOCK_ROWS; row < end; row++) {
            if (isChosen(row)) {
                picked[size] = row;
                size++;
            }
        }
        return size;
    }

    private boolean isChosen(int row) {
        for (int i = 0; i < conditionCount; i++) {
            long cell = cells[spot(row, conditionColumns[i])];
            if (!couldHold(conditionOps[i], conditionValues[i], cell, cell)) {
                return false;
            }
        }
        return true;
    }

    private boolean isPassedOver(int block) {
        if (block >= fullBlocks()) {
            return false;
        }
        for (int i = 0; i < conditionCount; i++) {
            int at = place(block, conditionColumns[i]);
            if (!couldHold(conditionOps[i], conditionValues[i], leastCells[at], greatestCells[at])) {
                return true;
            }
        }
        return false;
    }

    /**
     * Whether some number from least to greatest makes the condition hold. One cell is asked as
     * a range of one number, so that rows and blocks can never disagree.
     */
    private static boolean couldHold(int op, long value, long least, long greatest) {
        switch (op) {
            case LESS:
                return least < value;
            case NOT_GREATER:
                return least <= value;
            case EQUAL:
                return least <= value && value <= greatest;
            case NOT_LESS:
                return greatest >= value;
            case GREATER:
                return greatest > value;
            default:
                return least != value || greatest != value;
        }
    }

    private long sumOfPicked(int column, int from, int to) {
        long sum = 0;
        for (int i = from; i < to; i++) {
            sum += cells[spot(picked[i], column)];
        }
        return sum;
    }

    /** At least one row must be picked at from: the callers have refused what is empty. */
    private long boundOfPicked(int column, boolean most, int from, int to) {
        long best = cells[spot(picked[from], column)];
        for (int i = from + 1; i < to; i++) {
            long cell = cells[spot(picked[i], column)];
            if (most ? cell > best : cell < best) {
                best = cell;
            }
        }
        return best;
    }

    /**
     * Orders the picked rows by the cells of a column. A row never goes past one with an equal
     * cell: these stay in the order of their numbers, whichever end comes first.
     */
    private void sortPicked(int size, int column, boolean greatestFirst) {
        for (int i = 1; i < size; i++) {
            int row = picked[i];
            long cell = cells[spot(row, column)];
            int hole = i;
            while (hole > 0 && comesBefore(cell, cells[spot(picked[hole - 1], column)], greatestFirst)) {
                picked[hole] = picked[hole - 1];
                hole--;
            }
            picked[hole] = row;
        }
    }

    private static boolean comesBefore(long cell, long other, boolean greatestFirst) {
        return greatestFirst ? cell > other : cell < other;
    }

    /** Equal cells stand together only if the picked rows are sorted by this column. */
    private boolean startsGroup(int i, int column) {
        return i == 0 || cells[spot(picked[i], column)] != cells[spot(picked[i - 1], column)];
    }

    /** Where group k begins in picked, or -1 if there is no such group. */
    private int groupStart(int k, int column, int size) {
        int seen = 0;
        for (int i = 0; i < size; i++) {
            if (startsGroup(i, column)) {
                if (seen == k) {
                    return i;
                }
                seen++;
            }
        }
        return -1;
    }

    /** Behind the last row of the group that begins at the place from. */
    private int groupEnd(int from, int column, int size) {
        for (int i = from + 1; i < size; i++) {
            if (startsGroup(i, column)) {
                return i;
            }
        }
        return size;
    }

    private void packFullBlocks() {
        for (int block = 0; block < fullBlocks(); block++) {
            packBlock(block);
        }
    }

    private void packBlock(int block) {
        for (int column = 0; column < COLUMNS; column++) {
            packColumn(block, column);
        }
    }

    private void packColumn(int block, int column) {
        int start = spot(block * BLOCK_ROWS, column);
        int place = place(block, column);
        int cellBits = column == LONG_COLUMN ? LONG_BITS : INT_BITS;
        noteBounds(start, place);
        int words = differentCells(start);
        // The difference may wrap, but its 64 figures are those of the whole number all the same.
        int offsetWidth = widthOf(greatestCells[place] - leastCells[place]);
        bestWays[place] = PLAIN;
        bestBits[place] = BLOCK_ROWS * cellBits;
        offerWay(place, RUNS, runsOfCells(start) * (cellBits + RUN_LENGTH_BITS));
        offerWay(place, WORDS, words * cellBits + BLOCK_ROWS * widthOf(words - 1));
        offerWay(place, OFFSETS, cellBits + OFFSET_WIDTH_BITS + BLOCK_ROWS * offsetWidth);
    }

    /** Ways are offered by rising numbers: of several that need the least, the first one stays. */
    private void offerWay(int place, int way, int bits) {
        if (bits < bestBits[place]) {
            bestWays[place] = way;
            bestBits[place] = bits;
        }
    }

    private void noteBounds(int start, int place) {
        long least = cells[start];
        long greatest = cells[start];
        for (int i = start + 1; i < start + BLOCK_ROWS; i++) {
            least = Math.min(least, cells[i]);
            greatest = Math.max(greatest, cells[i]);
        }
        leastCells[place] = least;
        greatestCells[place] = greatest;
    }

    private int runsOfCells(int start) {
        int runs = 1;
        for (int i = start + 1; i < start + BLOCK_ROWS; i++) {
            if (cells[i] != cells[i - 1]) {
                runs++;
            }
        }
        return runs;
    }

    private int differentCells(int start) {
        int different = 0;
        for (int i = start; i < start + BLOCK_ROWS; i++) {
            if (!stoodBefore(start, i)) {
                different++;
            }
        }
        return different;
    }

    private boolean stoodBefore(int start, int at) {
        for (int i = start; i < at; i++) {
            if (cells[i] == cells[at]) {
                return true;
            }
        }
        return false;
    }

    /** How many binary figures a number has, taken as one without a sign. */
    private static int widthOf(long number) {
        int width = 0;
        while (width < LONG_BITS && number >>> width != 0) {
            width++;
        }
        return width;
    }
}
