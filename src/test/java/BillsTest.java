/** Promises 1 to 6: a new object, bills, senators, numbers. */
public final class BillsTest {
    public static void main(String[] args) {
        aNewObject();
        bills();
        billsFromRows();
        billsThatEnd();
        senators();
        mended();
        refusedNumbers();
        Due.end();
    }

    private static void aNewObject() {
        CradleVeto x = new CradleVeto();
        for (int what = 0; what < 6; what++) Due.is("count " + what, x.count(what), 0);
        Due.is("count -1", x.count(-1), Due.BAD);
        Due.is("count 6", x.count(6), Due.BAD);
        Due.is("teeth", x.of(0, 6), 0);
        Due.is("wind", x.of(0, 7), 0);
        Due.is("since", x.of(0, 8), 0);
        Due.is("seed", x.of(0, 9), 1);
        for (int what = 0; what < 6; what++) Due.is("led " + what, x.led(what), 0);
        for (int shelf = 0; shelf < 6; shelf++) Due.is("shelf " + shelf, x.taken(shelf, 0), -11);
        Due.is("back", x.back(), Due.STATE);
        Due.is("undo", x.undo(), Due.STATE);
        Due.is("redo", x.redo(), Due.STATE);
        Due.is("trace", x.trace(0), Due.BAD);
        Due.is("law", x.law(), -100);
    }

    private static void bills() {
        CradleVeto x = new CradleVeto();
        for (int ls : new int[] {9, 100, 0, -10, -25, Integer.MIN_VALUE, Integer.MAX_VALUE}) {
            Due.is("bill " + ls, x.bill(ls), Due.BAD);
        }
        Due.is("none came", x.count(0), 0);
        Due.is("bill 10", x.bill(10), 0);
        Due.is("bill 99", x.bill(99), 1);
        Due.is("length", x.of(1, 0), 9);
        Due.is("sharp", x.of(1, 1), 9);
        Due.is("matter", x.of(1, 2), 0);
        Due.is("worth", x.of(1, 3), 10);
        Due.is("sharp of 10", x.of(0, 1), 0);
        for (int i = 2; i < 10; i++) Due.is("bill", x.bill(37), i);
        Due.is("an eleventh", x.bill(37), Due.FULL);
        Due.is("BAD ahead of FULL", x.bill(7), Due.BAD);
        Due.is("ten", x.count(0), 10);
    }

    private static void billsFromRows() {
        CradleVeto x = new CradleVeto();
        Due.is("missing", x.bills(0, 0, 1), 0);
        Due.is("missing, below 0", x.bills(0, -1, 1), 0);
        Due.is("shelf -1", x.bills(-1, 0, 1), Due.BAD);
        Due.is("shelf 6", x.bills(6, 0, 1), Due.BAD);
        Due.is("n 0", x.bills(0, 0, 0), Due.BAD);
        Due.is("n 11", x.bills(0, 0, 11), Due.BAD);
        x.body(0);
        x.keep(1, 0);
        Due.is("a body", x.bills(1, 0, 1), -12);
        for (int sort = 1; sort < 5; sort++) {
            x.row(1, sort, 6);
            Due.is("sort " + sort, x.bills(1, 0, 1), -12);
        }
        Senates.bytes(x, 2, 5, 4, 99, 1, 0, 0, 9, 9, 50);
        Due.is("below 0", x.bills(2, -1, 2), 0);
        Due.is("below 0 far", x.bills(2, Integer.MIN_VALUE, 2), 0);
        Due.is("behind", x.bills(2, 9, 2), 0);
        Due.is("far behind", x.bills(2, Integer.MAX_VALUE, 2), 0);
        Due.is("two of three", x.bills(2, 0, 2), 2);
        Due.is("length", x.of(0, 0), 5);
        Due.is("sharp", x.of(0, 1), 4);
        Due.is("worth", x.of(0, 3), 99);
        Due.is("matter", x.of(0, 2), 0);
        Due.is("worth 0", x.of(1, 3), 0);
        Due.is("the last one alone", x.bills(2, 6, 10), 1);
        Due.is("it ends within a three", x.bills(2, 7, 1), 0);
        Due.is("three", x.count(0), 3);
    }

    private static void billsThatEnd() {
        int[][] ends = {{0, 0, 0}, {10, 0, 0}, {-1, 0, 0}, {1, 10, 0}, {1, -1, 0}, {1, 0, 100}, {1, 0, -1}, {1, 0}, {1}, {}};
        for (int[] end : ends) {
            CradleVeto x = new CradleVeto();
            int[] row = new int[6 + end.length];
            System.arraycopy(new int[] {3, 2, 1, 4, 5, 6}, 0, row, 0, 6);
            System.arraycopy(end, 0, row, 6, end.length);
            Senates.bytes(x, 5, row);
            Due.is("those ahead came", x.bills(5, 0, 5), 2);
            Due.is("they are there", x.count(0), 2);
            Due.is("worth", x.of(1, 3), 6);
        }
        CradleVeto x = new CradleVeto();
        for (int i = 0; i < 8; i++) x.bill(11);
        Senates.bytes(x, 0, 1, 1, 1, 2, 2, 2, 3, 3, 3);
        Due.is("as many as there is room for", x.bills(0, 0, 3), 2);
        Due.is("full", x.bills(0, 0, 3), 0);
        Due.is("ten", x.count(0), 10);
    }

    private static void senators() {
        CradleVeto x = new CradleVeto();
        Due.is("rumble -1", x.senator(-1, 0), Due.BAD);
        Due.is("rumble 10", x.senator(10, 0), Due.BAD);
        Due.is("party -1", x.senator(0, -1), Due.BAD);
        Due.is("party 3", x.senator(0, 3), Due.BAD);
        for (int i = 0; i < 6; i++) Due.is("senator", x.senator(9 - i, i % 3), i);
        Due.is("a seventh", x.senator(1, 1), Due.FULL);
        Due.is("BAD ahead of FULL", x.senator(10, 1), Due.BAD);
        Due.is("rumble", x.of(4, 4), 5);
        Due.is("party", x.of(4, 5), 1);
        Due.is("six", x.count(1), 6);
    }

    private static void mended() {
        CradleVeto x = new CradleVeto();
        x.bill(25);
        x.bill(47);
        x.senator(6, 1);
        int[][] told = {
            {1, 0, 4, 9}, {1, 1, 7, 0}, {1, 2, 0, 3}, {1, 3, 10, 99}, {0, 4, 6, 9}, {0, 5, 1, 2},
            {0, 6, 0, 9}, {0, 7, 0, 9}, {0, 8, 0, 95}, {0, 9, 1, Integer.MIN_VALUE}};
        for (int[] each : told) {
            Due.is("of " + each[1], x.of(each[0], each[1]), each[2]);
            Due.is("mend " + each[1], x.mend(each[0], each[1], each[3]), each[2]);
            Due.is("of then " + each[1], x.of(each[0], each[1]), each[3]);
        }
        Due.is("another bill is as it was", x.of(0, 0), 2);
        Due.is("changes", x.count(3), 10);
        Due.is("the same number", x.mend(1, 0, 9), 9);
        Due.is("is no change", x.count(3), 10);
        Due.is("seed may be VOID", x.mend(0, 9, Due.VOID), Integer.MIN_VALUE);
        Due.is("seed is VOID", x.of(0, 9), Due.VOID);
    }

    private static void refusedNumbers() {
        CradleVeto x = new CradleVeto();
        x.bill(25);
        x.senator(6, 1);
        int[][] refused = {
            {0, 0, 0}, {0, 0, 10}, {0, 1, -1}, {0, 1, 10}, {0, 2, -1}, {0, 2, 4}, {0, 3, -1}, {0, 3, 100},
            {0, 4, -1}, {0, 4, 10}, {0, 5, -1}, {0, 5, 3}, {0, 6, -1}, {0, 6, 10}, {0, 7, -1}, {0, 7, 10},
            {0, 8, -1}, {0, 8, 96}, {0, 10, 0}, {0, -1, 0}, {1, 0, 1}, {-1, 0, 1}, {1, 4, 1}, {-1, 4, 1},
            {1, 6, 0}, {1, 7, 0}, {1, 8, 0}, {1, 9, 0}, {-1, 9, 0}, {0, Integer.MAX_VALUE, 0}, {0, Integer.MIN_VALUE, 0}};
        for (int[] each : refused) {
            Due.is("mend " + each[0] + " " + each[1] + " " + each[2], x.mend(each[0], each[1], each[2]), Due.VOID);
        }
        Due.is("no change", x.count(3), 0);
        for (int[] each : new int[][] {{1, 0}, {-1, 3}, {1, 4}, {6, 5}, {1, 6}, {1, 9}, {-1, 8}, {0, 10}, {0, -1}}) {
            Due.is("of " + each[0] + " " + each[1], x.of(each[0], each[1]), Due.VOID);
        }
    }
}
