import java.util.NoSuchElementException;

/**
 * "A call that throws changes nothing; of several reasons the exception named first is thrown."
 *
 * <p>Every call that can be refused is made in tables on both sides of each limit, with all
 * combinations of arguments on both sides of each limit, so that the reasons meet one another.
 * The exception must be the very one that is due. Behind each refused call, and behind each one
 * that only asks, the table must answer as one that was never asked.
 */
public final class RefusedCallsTest {
    private static final int LEAST = Integer.MIN_VALUE;
    private static final int GREATEST = Integer.MAX_VALUE;

    private static final int[] COLUMNS = {LEAST, -1, 0, 3, 4, GREATEST};
    private static final int[] NEAR_COLUMNS = {-1, 0, 3, 4};
    private static final int[] OPS = {LEAST, -1, 0, 5, 6, GREATEST};
    private static final int[] WHATS = {LEAST, -1, 0, 4, 5, GREATEST};

    private static final String NOTHING = "nothing";
    private static final String ARGUMENT = "IllegalArgumentException";
    private static final String STATE = "IllegalStateException";
    private static final String BOUNDS = "IndexOutOfBoundsException";
    private static final String ELEMENT = "NoSuchElementException";

    private static int wrong = 0;

    private interface Call {
        long on(ColumnHall hall);
    }

    /** How a table is made, and what is known of it by a look at that. */
    private abstract static class Table {
        final String name;
        final int rows;
        final int conditions;
        final int chosen;
        final int[] groups;

        Table(String name, int rows, int conditions, int chosen, int... groups) {
            this.name = name;
            this.rows = rows;
            this.conditions = conditions;
            this.chosen = chosen;
            this.groups = groups;
        }

        /** At most 132 calls, so that 380 are left for questions. */
        abstract ColumnHall made();

        int fullBlocks() {
            return rows / 16;
        }
    }

    /** Row i: (i, i % 3, 7, 10 i). */
    private static ColumnHall counted(int rows) {
        ColumnHall hall = new ColumnHall();
        for (int i = 0; i < rows; i++) {
            hall.append(i, i % 3, 7, 10L * i);
        }
        return hall;
    }

    private static final Table[] TABLES = {
        new Table("no rows", 0, 0, 0, 0, 0, 0, 0) {
            ColumnHall made() {
                return counted(0);
            }
        },
        new Table("no rows, three conditions", 0, 3, 0, 0, 0, 0, 0) {
            ColumnHall made() {
                ColumnHall hall = counted(0);
                hall.where(0, 3, 0L);
                hall.where(1, 3, 0L);
                hall.where(2, 3, 0L);
                return hall;
            }
        },
        new Table("one row", 1, 0, 1, 1, 1, 1, 1) {
            ColumnHall made() {
                return counted(1);
            }
        },
        new Table("fifteen rows, two conditions", 15, 2, 5, 5, 1, 1, 5) {
            ColumnHall made() {
                ColumnHall hall = counted(15);
                hall.where(1, 2, 1L);
                hall.where(3, 5, -1L);
                return hall;
            }
        },
        new Table("sixteen rows, none chosen", 16, 1, 0, 0, 0, 0, 0) {
            ColumnHall made() {
                ColumnHall hall = counted(16);
                hall.where(0, 0, 0L);
                return hall;
            }
        },
        new Table("seventeen rows, the last one chosen", 17, 1, 1, 1, 1, 1, 1) {
            ColumnHall made() {
                ColumnHall hall = counted(17);
                hall.where(3, 2, 160L);
                return hall;
            }
        },
        new Table("forty rows, 12, 15 and 18 chosen by three conditions", 40, 3, 3, 3, 1, 1, 3) {
            ColumnHall made() {
                ColumnHall hall = counted(40);
                hall.where(0, 3, 10L);
                hall.where(0, 0, 20L);
                hall.where(1, 2, 0L);
                return hall;
            }
        },
        new Table("127 rows", 127, 0, 127, 127, 3, 1, 127) {
            ColumnHall made() {
                return counted(127);
            }
        },
        new Table("128 rows", 128, 0, 128, 128, 3, 1, 128) {
            ColumnHall made() {
                return counted(128);
            }
        },
        new Table("128 rows, all but two chosen by three conditions", 128, 3, 126, 126, 3, 1, 126) {
            ColumnHall made() {
                ColumnHall hall = counted(128);
                hall.where(0, 5, 5L);
                hall.where(0, 5, 6L);
                hall.where(2, 2, 7L);
                return hall;
            }
        },
        new Table("128 rows less 28", 100, 1, 0, 0, 0, 0, 0) {
            ColumnHall made() {
                ColumnHall hall = counted(128);
                hall.where(0, 0, 28L);
                hall.purge();
                return hall;
            }
        },
        new Table("128 rows less all", 0, 0, 0, 0, 0, 0, 0) {
            ColumnHall made() {
                ColumnHall hall = counted(128);
                hall.purge();
                return hall;
            }
        },
    };

    private static String thrown(Call call, ColumnHall hall) {
        try {
            call.on(hall);
            return NOTHING;
        } catch (IllegalArgumentException | IllegalStateException | IndexOutOfBoundsException
                | NoSuchElementException e) {
            return e.getClass().getSimpleName();
        }
    }

    private static void fault(String text) {
        wrong++;
        if (wrong <= 40) {
            System.out.println(text);
        }
    }

    /** Several objects are asked, so that none gets more calls than it is used for. */
    private static final int PARTS = 5;

    private static String answers(ColumnHall hall, Table table, int part) {
        switch (part) {
            case 0:
                return cells(hall, 0, 64);
            case 1:
                return cells(hall, 64, 128);
            case 2:
                return choice(hall, table);
            case 3:
                return packing(hall, table);
            default:
                return whatFollows(hall);
        }
    }

    private static String cells(ColumnHall hall, int from, int to) {
        StringBuilder text = new StringBuilder();
        int rows = hall.rows();
        text.append(rows);
        for (int row = from; row < to && row < rows; row++) {
            for (int column = 0; column < 4; column++) {
                text.append(' ').append(hall.cell(row, column));
            }
        }
        return text.toString();
    }

    private static String choice(ColumnHall hall, Table table) {
        StringBuilder text = new StringBuilder();
        text.append(hall.chosen());
        for (int k = 0; k < table.chosen; k++) {
            text.append(' ').append(hall.row(k));
        }
        for (int column = 0; column < 4; column++) {
            text.append(' ').append(hall.sum(column)).append(' ').append(hall.groups(column));
            text.append(' ').append(hall.pairs(column, 3 - column));
            if (table.chosen > 0) {
                text.append(' ').append(hall.bound(column, false)).append(' ').append(hall.bound(column, true));
                text.append(' ').append(hall.ranked(column, table.chosen - 1));
                text.append(' ').append(hall.group(column, 0, 2, 3));
            }
        }
        return text.toString();
    }

    private static String packing(ColumnHall hall, Table table) {
        StringBuilder text = new StringBuilder();
        text.append(hall.blocks());
        for (int block = 0; block < table.fullBlocks(); block++) {
            for (int column = 0; column < 4; column++) {
                text.append(' ').append(hall.way(block, column)).append(' ').append(hall.bits(block, column));
            }
        }
        return text.toString();
    }

    private static String whatFollows(ColumnHall hall) {
        StringBuilder text = new StringBuilder();
        Call next = x -> x.append(1, 2, 3, 4L);
        text.append(thrown(next, hall)).append(' ').append(hall.rows());
        text.append(' ').append(hall.all()).append(' ').append(hall.chosen());
        text.append(' ').append(hall.sum(3)).append(' ').append(hall.where(3, 5, 0L));
        text.append(' ').append(hall.purge()).append(' ').append(hall.rows());
        return text.toString();
    }

    private static String[] answersOfUntouched(Table table) {
        String[] answers = new String[PARTS];
        for (int part = 0; part < PARTS; part++) {
            answers[part] = answers(table.made(), table, part);
        }
        return answers;
    }

    private final Table table;
    private final String[] untouched;

    private RefusedCallsTest(Table table) {
        this.table = table;
        untouched = answersOfUntouched(table);
    }

    private void check(String name, String due, boolean changes, Call call) {
        String got = thrown(call, table.made());
        if (!got.equals(due)) {
            fault(table.name + ": " + name + " threw " + got + ", due is " + due);
        }
        if (changes && due.equals(NOTHING)) {
            return;
        }
        for (int part = 0; part < PARTS; part++) {
            ColumnHall hall = table.made();
            thrown(call, hall);
            String behind = answers(hall, table, part);
            if (!behind.equals(untouched[part])) {
                fault(table.name + ": behind " + name + " answers are " + behind + ", not " + untouched[part]);
            }
        }
    }

    private void asks(String name, String due, Call call) {
        check(name, due, false, call);
    }

    private static boolean isColumn(int column) {
        return column == 0 || column == 1 || column == 2 || column == 3;
    }

    private static boolean isIn(int index, int size) {
        return 0 <= index && index < size;
    }

    private static String dueFor(boolean argumentsFit, int index, int size) {
        return !argumentsFit ? ARGUMENT : !isIn(index, size) ? BOUNDS : NOTHING;
    }

    private static int[] around(int size) {
        return new int[] {LEAST, -1, 0, size - 1, size, 128, GREATEST};
    }

    private void append() {
        check("append", table.rows == 128 ? STATE : NOTHING, true, x -> x.append(-1, -2, -3, -4L));
    }

    private void cell() {
        for (int row : around(table.rows)) {
            for (int column : COLUMNS) {
                asks("cell(" + row + ", " + column + ")", dueFor(isColumn(column), row, table.rows),
                        x -> x.cell(row, column));
            }
        }
    }

    private void where() {
        for (int column : COLUMNS) {
            for (int op : OPS) {
                boolean fits = isColumn(column) && isIn(op, 6);
                String due = !fits ? ARGUMENT : table.conditions == 3 ? STATE : NOTHING;
                check("where(" + column + ", " + op + ", 3)", due, true, x -> x.where(column, op, 3L));
            }
        }
    }

    private void row() {
        for (int k : around(table.chosen)) {
            asks("row(" + k + ")", dueFor(true, k, table.chosen), x -> x.row(k));
        }
    }

    private void sumBoundAndGroups() {
        for (int column : COLUMNS) {
            String due = isColumn(column) ? NOTHING : ARGUMENT;
            String dueOfBound = due.equals(NOTHING) && table.chosen == 0 ? ELEMENT : due;
            asks("sum(" + column + ")", due, x -> x.sum(column));
            asks("bound(" + column + ", false)", dueOfBound, x -> x.bound(column, false));
            asks("bound(" + column + ", true)", dueOfBound, x -> x.bound(column, true));
            asks("groups(" + column + ")", due, x -> x.groups(column));
        }
    }

    private void ranked() {
        for (int column : COLUMNS) {
            for (int k : around(table.chosen)) {
                asks("ranked(" + column + ", " + k + ")", dueFor(isColumn(column), k, table.chosen),
                        x -> x.ranked(column, k));
            }
        }
    }

    private void group() {
        for (int column : NEAR_COLUMNS) {
            int size = isColumn(column) ? table.groups[column] : table.chosen;
            for (int k : new int[] {LEAST, -1, 0, size - 1, size, GREATEST}) {
                for (int what : WHATS) {
                    for (int of : NEAR_COLUMNS) {
                        boolean fits = isColumn(column) && isColumn(of) && isIn(what, 5);
                        asks("group(" + column + ", " + k + ", " + what + ", " + of + ")", dueFor(fits, k, size),
                                x -> x.group(column, k, what, of));
                    }
                }
            }
        }
    }

    private void pairs() {
        for (int one : COLUMNS) {
            for (int two : COLUMNS) {
                asks("pairs(" + one + ", " + two + ")", isColumn(one) && isColumn(two) ? NOTHING : ARGUMENT,
                        x -> x.pairs(one, two));
            }
        }
    }

    private void wayAndBits() {
        for (int block : new int[] {LEAST, -1, 0, table.fullBlocks() - 1, table.fullBlocks(), 7, 8, GREATEST}) {
            for (int column : COLUMNS) {
                String due = dueFor(isColumn(column), block, table.fullBlocks());
                asks("way(" + block + ", " + column + ")", due, x -> x.way(block, column));
                asks("bits(" + block + ", " + column + ")", due, x -> x.bits(block, column));
            }
        }
    }

    private void neverRefused() {
        asks("rows()", NOTHING, x -> x.rows());
        asks("chosen()", NOTHING, x -> x.chosen());
        asks("blocks()", NOTHING, x -> x.blocks());
        check("all()", NOTHING, true, x -> x.all());
        check("purge()", NOTHING, true, x -> x.purge());
    }

    private void allCalls() {
        append();
        cell();
        where();
        row();
        sumBoundAndGroups();
        ranked();
        group();
        pairs();
        wayAndBits();
        neverRefused();
    }

    public static void main(String[] args) {
        for (Table table : TABLES) {
            new RefusedCallsTest(table).allCalls();
        }
        System.out.println(wrong == 0 ? "refused calls are refused as due and change nothing"
                : wrong + " things are not as due");
        if (wrong != 0) {
            System.exit(1);
        }
    }
}
