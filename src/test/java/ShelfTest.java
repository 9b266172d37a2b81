import java.util.Random;

/** Promises 36 to 40 and 42: shelves, rows, elements, what is counted. */
public final class ShelfTest {
    public static void main(String[] args) {
        kept();
        rows();
        elements();
        refusedElements();
        shifts();
        shiftsByChance();
        refusedShifts();
        Due.end();
    }

    private static void kept() {
        CradleVeto x = new CradleVeto();
        Due.is("nothing", x.keep(0, -1), 1);
        Due.is("no body", x.keep(0, 0), Due.BAD);
        Due.is("body -2", x.keep(0, -2), Due.BAD);
        x.body(4);
        for (int shelf = 0; shelf < 6; shelf++) {
            Due.is("a body", x.keep(shelf, 0), 1);
            Due.is("is there", x.taken(shelf, 0), 4);
        }
        Due.is("shelf -1", x.keep(-1, 0), Due.BAD);
        Due.is("shelf 6", x.keep(6, -1), Due.BAD);
        Due.is("body 1", x.keep(0, 1), Due.BAD);
        Due.is("still there", x.taken(0, 1), 4);
        Due.is("nothing", x.keep(0, -1), 1);
        Due.is("nothing there", x.taken(0, 0), -11);
        x.row(1, 0, 4);
        Due.is("nothing for a row", x.keep(1, -1), 1);
        Due.is("nothing there", x.put(1, 0, 1), -11);
    }

    private static void rows() {
        CradleVeto x = new CradleVeto();
        for (int shelf : new int[] {-1, 6}) Due.is("shelf " + shelf, x.row(shelf, 0, 0), Due.BAD);
        for (int sort : new int[] {-1, 5}) Due.is("sort " + sort, x.row(0, sort, 0), Due.BAD);
        Due.is("n 61", x.row(0, 0, 61), Due.BAD);
        Due.is("n -1", x.row(0, 0, -1), -14);
        Due.is("n far below", x.row(0, 0, Integer.MIN_VALUE), -14);
        Due.is("BAD ahead of -14", x.row(0, 5, -1), Due.BAD);
        Due.is("BAD ahead of -14", x.row(6, 0, -1), Due.BAD);
        Due.is("nothing came", x.taken(0, 0), -11);
        Due.is("no elements", x.row(0, 0, 0), 1);
        Due.is("no place", x.element(0, 0), Due.NONE);
        Due.is("no place", x.put(0, 0, 1), -13);
        Due.is("sixty", x.row(0, 3, 60), 1);
        Due.is("the last one", x.put(0, 59, 7), 1);
        Due.is("no more", x.put(0, 60, 7), -13);
        Due.is("a new row", x.row(0, 3, 60), 1);
        Due.is("of 0", x.element(0, 59), 0);
    }

    private static void elements() {
        long[] values = {0, 1, -1, 127, 128, 255, 256, 32767, 32768, 65536, 2147483647L, 2147483648L, 4294967296L,
            Long.MAX_VALUE, Long.MIN_VALUE, 0x123456789abcdefL};
        CradleVeto x = new CradleVeto();
        for (int sort = 0; sort < 5; sort++) {
            Due.is("row", x.row(sort, sort, 2), 1);
            for (long v : values) {
                long due = v;
                if (sort == 0) due = (byte) v;
                if (sort == 1) due = (short) v;
                if (sort == 2) due = (int) v;
                if (sort == 4) due = v == 0 ? 0 : 1;
                Due.is("put", x.put(sort, 1, v), 1);
                Due.is("element", x.element(sort, 1), due);
                Due.is("the other one", x.element(sort, 0), 0);
            }
        }
    }

    private static void refusedElements() {
        CradleVeto x = new CradleVeto();
        x.body(0);
        x.keep(1, 0);
        x.row(2, 2, 3);
        int[][] refused = {{-1, 0, -1}, {6, 0, -1}, {0, 0, -11}, {0, -1, -11}, {1, 0, -12}, {1, -1, -12}, {2, -1, -13}, {2, 3, -13},
            {2, Integer.MAX_VALUE, -13}, {2, Integer.MIN_VALUE, -13}};
        for (int[] each : refused) {
            Due.is("put " + each[0] + " " + each[1], x.put(each[0], each[1], 5), each[2]);
            Due.is("element " + each[0] + " " + each[1], x.element(each[0], each[1]), Due.NONE);
        }
    }

    private static void shifts() {
        CradleVeto x = new CradleVeto();
        x.row(0, 2, 5);
        x.row(1, 2, 3);
        for (int i = 0; i < 5; i++) x.put(0, i, 10 + i);
        Due.is("on itself", x.shift(0, 0, 0, 1, 4), 4);
        int[] due = {10, 10, 11, 12, 13};
        for (int i = 0; i < 5; i++) Due.is("as they were before", x.element(0, i), due[i]);
        Due.is("back on itself", x.shift(0, 1, 0, 0, 4), 4);
        due = new int[] {10, 11, 12, 13, 13};
        for (int i = 0; i < 5; i++) Due.is("as they were before", x.element(0, i), due[i]);
        Due.is("to another one", x.shift(0, 2, 1, 0, 3), 3);
        for (int i = 0; i < 3; i++) Due.is("there", x.element(1, i), due[i + 2]);
        Due.is("none", x.shift(0, 5, 1, 3, 0), 0);
        Due.is("none of none", x.shift(0, 0, 1, 0, 0), 0);
    }

    private static void shiftsByChance() {
        Random random = new Random(41);
        for (int i = 0; i < 300; i++) {
            CradleVeto x = new CradleVeto();
            int sort = random.nextInt(5);
            long[][] due = {new long[random.nextInt(7)], new long[random.nextInt(7)]};
            for (int row = 0; row < 2; row++) {
                x.row(row, sort, due[row].length);
                for (int j = 0; j < due[row].length; j++) {
                    due[row][j] = random.nextInt(2);
                    x.put(row, j, due[row][j]);
                }
            }
            for (int j = 0; j < 10; j++) {
                int from = random.nextInt(2);
                int to = random.nextInt(2);
                int a = random.nextInt(9) - 1;
                int b = random.nextInt(9) - 1;
                int n = random.nextInt(8) - 1;
                int answer = n;
                try {
                    System.arraycopy(due[from], a, due[to], b, n);
                } catch (IndexOutOfBoundsException refused) {
                    answer = -13;
                }
                Due.is("shift", x.shift(from, a, to, b, n), answer);
                for (int row = 0; row < 2; row++) {
                    for (int k = 0; k < due[row].length; k++) Due.is("element", x.element(row, k), due[row][k]);
                }
            }
        }
    }

    private static void refusedShifts() {
        CradleVeto x = new CradleVeto();
        x.row(0, 0, 4);
        x.row(1, 1, 4);
        x.body(0);
        x.keep(2, 0);
        int far = Integer.MAX_VALUE;
        int[][] refused = {{-1, 0, 0, 0, 0, -1}, {0, 0, 6, 0, 0, -1}, {6, 0, 3, 0, 0, -1}, {3, 0, 0, 0, 1, -11}, {0, 0, 3, 0, 1, -11},
            {2, 0, 3, 0, 1, -11}, {3, 0, 2, 0, 1, -11}, {0, 0, 1, 0, 1, -12}, {2, 0, 0, 0, 1, -12}, {0, 0, 2, 0, 1, -12},
            {2, 0, 2, 0, 0, -12}, {0, -1, 1, 0, 1, -12}, {0, 0, 0, 0, -1, -13}, {0, -1, 0, 0, 1, -13}, {0, 0, 0, -1, 1, -13},
            {0, 0, 0, 0, 5, -13}, {0, 1, 0, 0, 4, -13}, {0, 0, 0, 1, 4, -13}, {0, 5, 0, 0, 0, -13}, {0, 0, 0, 5, 0, -13},
            {0, far, 0, 0, 1, -13}, {0, 1, 0, 1, far, -13}, {0, 1, 0, far, far, -13}, {0, 0, 0, 0, Integer.MIN_VALUE, -13}};
        for (int[] each : refused) {
            Due.is("shift " + each[0] + " " + each[1] + " " + each[2] + " " + each[3] + " " + each[4],
                    x.shift(each[0], each[1], each[2], each[3], each[4]), each[5]);
        }
    }
}
