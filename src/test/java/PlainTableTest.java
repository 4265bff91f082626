import java.math.BigInteger;
import java.util.ArrayList;
import java.util.Comparator;
import java.util.HashSet;
import java.util.List;
import java.util.NoSuchElementException;
import java.util.Random;
import java.util.Set;
import java.util.TreeMap;
import java.util.TreeSet;

/**
 * Long runs of mixed calls, compared with a table that is written in the plainest way and shares
 * no thought with the program. The runs are the same each time: the seeds are written here.
 */
public final class PlainTableTest {
    private static final int RUNS = 3000;
    private static final int CALLS = 512;

    /** The document's words, one by one, over a list of rows. */
    private static final class PlainTable {
        private final List<long[]> rows = new ArrayList<>();
        private final List<long[]> conditions = new ArrayList<>();

        private static boolean isColumn(long column) {
            return column >= 0 && column <= 3;
        }

        private static void needColumn(long column) {
            if (!isColumn(column)) {
                throw new IllegalArgumentException();
            }
        }

        private static boolean holds(long op, long cell, long value) {
            int order = Long.compare(cell, value);
            return op == 0 ? order < 0 : op == 1 ? order <= 0 : op == 2 ? order == 0
                    : op == 3 ? order >= 0 : op == 4 ? order > 0 : order != 0;
        }

        private List<Integer> chosenRows() {
            List<Integer> found = new ArrayList<>();
            for (int i = 0; i < rows.size(); i++) {
                boolean chosen = true;
                for (long[] condition : conditions) {
                    chosen &= holds(condition[1], rows.get(i)[(int) condition[0]], condition[2]);
                }
                if (chosen) {
                    found.add(i);
                }
            }
            return found;
        }

        private List<Long> cellsOf(List<Integer> numbers, int column) {
            List<Long> cells = new ArrayList<>();
            for (int number : numbers) {
                cells.add(rows.get(number)[column]);
            }
            return cells;
        }

        private List<Long> blockCells(int block, int column) {
            List<Integer> numbers = new ArrayList<>();
            for (int i = 16 * block; i < 16 * block + 16; i++) {
                numbers.add(i);
            }
            return cellsOf(numbers, column);
        }

        private static <T> T at(List<T> list, int k) {
            if (k < 0 || k >= list.size()) {
                throw new IndexOutOfBoundsException();
            }
            return list.get(k);
        }

        int append(int a, int b, int c, long d) {
            if (rows.size() == 128) {
                throw new IllegalStateException();
            }
            rows.add(new long[] {a, b, c, d});
            return rows.size() - 1;
        }

        long cell(int row, int column) {
            needColumn(column);
            return at(rows, row)[column];
        }

        int where(int column, int op, long value) {
            needColumn(column);
            if (op < 0 || op > 5) {
                throw new IllegalArgumentException();
            }
            if (conditions.size() == 3) {
                throw new IllegalStateException();
            }
            conditions.add(new long[] {column, op, value});
            return conditions.size();
        }

        int all() {
            int before = conditions.size();
            conditions.clear();
            return before;
        }

        /** Of all numbers between the bounds, these few tell whether any makes the condition hold. */
        private boolean anyBetween(long[] condition, int block) {
            TreeSet<Long> cells = new TreeSet<>(blockCells(block, (int) condition[0]));
            long value = condition[2];
            for (long number : new long[] {cells.first(), cells.last(), value - 1, value, value + 1}) {
                boolean inside = number >= cells.first() && number <= cells.last();
                if (inside && holds(condition[1], number, value)) {
                    return true;
                }
            }
            return false;
        }

        int blocks() {
            int found = 0;
            for (int block = 0; 16 * block < rows.size(); block++) {
                boolean passedOver = false;
                for (long[] condition : conditions) {
                    passedOver |= 16 * block + 16 <= rows.size() && !anyBetween(condition, block);
                }
                found += passedOver ? 0 : 1;
            }
            return found;
        }

        private static long sumOf(List<Long> cells) {
            BigInteger sum = BigInteger.ZERO;
            for (long cell : cells) {
                sum = sum.add(BigInteger.valueOf(cell));
            }
            return sum.longValue();
        }

        long sum(int column) {
            needColumn(column);
            return sumOf(cellsOf(chosenRows(), column));
        }

        long bound(int column, boolean most) {
            needColumn(column);
            TreeSet<Long> cells = new TreeSet<>(cellsOf(chosenRows(), column));
            return most ? cells.last() : cells.first();
        }

        int ranked(int column, int k) {
            needColumn(column);
            List<Integer> order = chosenRows();
            order.sort(Comparator.comparing((Integer i) -> rows.get(i)[column]).reversed()
                    .thenComparing(Comparator.naturalOrder()));
            return at(order, k);
        }

        private TreeMap<Long, List<Integer>> grouped(int column) {
            TreeMap<Long, List<Integer>> groups = new TreeMap<>();
            for (int number : chosenRows()) {
                groups.computeIfAbsent(rows.get(number)[column], cell -> new ArrayList<>()).add(number);
            }
            return groups;
        }

        int groups(int column) {
            needColumn(column);
            return grouped(column).size();
        }

        long group(int column, int k, int what, int of) {
            needColumn(column);
            needColumn(of);
            if (what < 0 || what > 4) {
                throw new IllegalArgumentException();
            }
            TreeMap<Long, List<Integer>> groups = grouped(column);
            long cell = at(new ArrayList<>(groups.keySet()), k);
            List<Long> cells = cellsOf(groups.get(cell), of);
            TreeSet<Long> rising = new TreeSet<>(cells);
            return what == 0 ? cell : what == 1 ? cells.size() : what == 2 ? sumOf(cells)
                    : what == 3 ? rising.first() : rising.last();
        }

        int pairs(int one, int two) {
            needColumn(one);
            needColumn(two);
            int found = 0;
            List<Integer> chosen = chosenRows();
            for (int first : chosen) {
                for (int second : chosen) {
                    found += first < second && rows.get(first)[one] == rows.get(second)[two] ? 1 : 0;
                }
            }
            return found;
        }

        private int[] needs(int block, int column) {
            needColumn(column);
            if (block < 0 || block >= rows.size() / 16) {
                throw new IndexOutOfBoundsException();
            }
            List<Long> cells = blockCells(block, column);
            int w = column == 3 ? 64 : 32;
            int runs = 0;
            for (int i = 0; i < 16; i++) {
                runs += i > 0 && cells.get(i).equals(cells.get(i - 1)) ? 0 : 1;
            }
            Set<Long> words = new HashSet<>(cells);
            TreeSet<Long> rising = new TreeSet<>(cells);
            BigInteger spread = BigInteger.valueOf(rising.last()).subtract(BigInteger.valueOf(rising.first()));
            return new int[] {
                16 * w,
                (w + 5) * runs,
                w * words.size() + 16 * BigInteger.valueOf(words.size() - 1).bitLength(),
                w + 7 + 16 * spread.bitLength()};
        }

        int bits(int block, int column) {
            int least = Integer.MAX_VALUE;
            for (int need : needs(block, column)) {
                least = Math.min(least, need);
            }
            return least;
        }

        int way(int block, int column) {
            int[] needs = needs(block, column);
            int way = 0;
            while (needs[way] != bits(block, column)) {
                way++;
            }
            return way;
        }

        int purge() {
            Set<Integer> taken = new HashSet<>(chosenRows());
            List<long[]> kept = new ArrayList<>();
            for (int i = 0; i < rows.size(); i++) {
                if (!taken.contains(i)) {
                    kept.add(rows.get(i));
                }
            }
            rows.clear();
            rows.addAll(kept);
            return taken.size();
        }
    }

    private interface Answer {
        long get();
    }

    private static String told(Answer answer) {
        try {
            return Long.toString(answer.get());
        } catch (IllegalArgumentException | IllegalStateException | IndexOutOfBoundsException
                | NoSuchElementException e) {
            return "throws." + e.getClass().getSimpleName();
        }
    }

    private final Random random;
    private final int run;
    private final ColumnHall hall = new ColumnHall();
    private final PlainTable plain = new PlainTable();
    private final long[] last = new long[4];
    private final int[] kinds = new int[4];
    private int wrong = 0;

    private PlainTableTest(int run) {
        this.run = run;
        random = new Random(run);
        for (int column = 0; column < 4; column++) {
            kinds[column] = random.nextInt(7);
        }
    }

    private void same(String call, Answer got, Answer want) {
        String gotTold = told(got);
        String wantTold = told(want);
        if (!gotTold.equals(wantTold)) {
            wrong++;
            System.out.println("run " + run + ": " + call + " answered " + gotTold + ", due is " + wantTold);
        }
    }

    private static long limit(int column, boolean most) {
        return column == 3 ? (most ? Long.MAX_VALUE : Long.MIN_VALUE)
                : (most ? Integer.MAX_VALUE : Integer.MIN_VALUE);
    }

    /** Each kind leads to another way of packing, or to the ends of the numbers. */
    private long freshCell(int column) {
        switch (kinds[column]) {
            case 0:
                return random.nextInt(5) - 2;
            case 1:
                return random.nextInt(8) == 0 ? random.nextLong() : last[column];
            case 2:
                return last[column] + random.nextInt(100);
            case 3:
                return (random.nextInt(4) - 2) * (limit(column, true) / 3);
            case 4:
                return limit(column, random.nextBoolean()) + random.nextInt(3) - 1;
            case 5:
                return random.nextLong() >> random.nextInt(64);
            default:
                return 7;
        }
    }

    private long nextCell(int column) {
        if (random.nextInt(60) == 0) {
            kinds[column] = random.nextInt(7);
        }
        long cell = freshCell(column);
        last[column] = column == 3 ? cell : (int) cell;
        return last[column];
    }

    private int index(int bound) {
        int turn = random.nextInt(40);
        return turn == 0 ? -1 : turn == 1 ? bound : turn == 2 ? random.nextInt() : random.nextInt(bound + 1);
    }

    private int column() {
        int turn = random.nextInt(60);
        return turn == 0 ? -1 : turn == 1 ? 4 : turn == 2 ? random.nextInt() : random.nextInt(4);
    }

    private long value(int column) {
        boolean real = column >= 0 && column <= 3;
        if (real && !plain.rows.isEmpty() && random.nextInt(5) > 0) {
            return plain.rows.get(random.nextInt(plain.rows.size()))[column] + random.nextInt(3) - 1;
        }
        return random.nextLong() >> random.nextInt(64);
    }

    private void append() {
        int a = (int) nextCell(0);
        int b = (int) nextCell(1);
        int c = (int) nextCell(2);
        long d = nextCell(3);
        same("append(" + a + ", " + b + ", " + c + ", " + d + ")",
                () -> hall.append(a, b, c, d), () -> plain.append(a, b, c, d));
    }

    private void where() {
        int column = column();
        int op = random.nextInt(30) == 0 ? random.nextInt() : random.nextInt(20) == 0 ? 6 : random.nextInt(6);
        long value = value(column);
        same("where(" + column + ", " + op + ", " + value + ")",
                () -> hall.where(column, op, value), () -> plain.where(column, op, value));
    }

    private void group() {
        int column = column();
        int k = index(random.nextInt(6) + 1);
        int what = random.nextInt(7) - 1;
        int of = column();
        same("group(" + column + ", " + k + ", " + what + ", " + of + ")",
                () -> hall.group(column, k, what, of), () -> plain.group(column, k, what, of));
    }

    private void askRow() {
        int k = index(plain.rows.size());
        int column = column();
        same("cell(" + k + ", " + column + ")", () -> hall.cell(k, column), () -> plain.cell(k, column));
        same("row(" + k + ")", () -> hall.row(k), () -> PlainTable.at(plain.chosenRows(), k));
        same("ranked(" + column + ", " + k + ")", () -> hall.ranked(column, k), () -> plain.ranked(column, k));
    }

    private void askColumn() {
        int column = column();
        int two = column();
        boolean most = random.nextBoolean();
        same("sum(" + column + ")", () -> hall.sum(column), () -> plain.sum(column));
        same("bound(" + column + ", " + most + ")", () -> hall.bound(column, most), () -> plain.bound(column, most));
        same("groups(" + column + ")", () -> hall.groups(column), () -> plain.groups(column));
        same("pairs(" + column + ", " + two + ")", () -> hall.pairs(column, two), () -> plain.pairs(column, two));
    }

    private void askBlock() {
        int block = index(plain.rows.size() / 16);
        int column = column();
        same("way(" + block + ", " + column + ")", () -> hall.way(block, column), () -> plain.way(block, column));
        same("bits(" + block + ", " + column + ")", () -> hall.bits(block, column), () -> plain.bits(block, column));
    }

    private void askCounts() {
        same("rows()", () -> hall.rows(), () -> plain.rows.size());
        same("chosen()", () -> hall.chosen(), () -> plain.chosenRows().size());
        same("blocks()", () -> hall.blocks(), () -> plain.blocks());
    }

    private int step() {
        int turn = random.nextInt(100);
        if (turn < 55) {
            append();
            return 1;
        } else if (turn < 62) {
            where();
            return 1;
        } else if (turn < 65) {
            same("all()", hall::all, plain::all);
            return 1;
        } else if (turn < 67) {
            boolean few = plain.chosenRows().size() < 40 || random.nextInt(10) == 0;
            if (few) {
                same("purge()", hall::purge, plain::purge);
            }
            return few ? 1 : 0;
        } else if (turn < 75) {
            askRow();
            return 3;
        } else if (turn < 82) {
            askColumn();
            return 4;
        } else if (turn < 88) {
            group();
            return 1;
        } else if (turn < 94) {
            askBlock();
            return 2;
        }
        askCounts();
        return 3;
    }

    public static void main(String[] args) {
        int wrong = 0;
        for (int run = 0; run < RUNS && wrong < 20; run++) {
            PlainTableTest test = new PlainTableTest(run);
            for (int calls = 0; calls < CALLS - 4 && test.wrong == 0; ) {
                calls += test.step();
            }
            wrong += test.wrong;
        }
        System.out.println(wrong == 0 ? "all runs answer as the plain table" : wrong + " answers are not as due");
        if (wrong != 0) {
            System.exit(1);
        }
    }
}
