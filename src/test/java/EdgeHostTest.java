/** Edges of promises 33 to 42: each sentence that names one has a test of its own. */
public final class EdgeHostTest {
    private static final int FAR = Integer.MAX_VALUE, FAR_BELOW = Integer.MIN_VALUE;
    private static final int[] NO_SHELF = {-1, 6, 7, FAR, FAR_BELOW}, NO_KIND = {-1, 8, 9, FAR, FAR_BELOW};
    private static final int BYTES = 0, SHORTS = 1, INTS = 2, LONGS = 3, BOOLEANS = 4;

    public static void main(String[] args) {
        bodyRefused();
        bodiesFull();
        actOfNoBody();
        actOfNoAct();
        actsThatWrap();
        tracesRefused();
        tracesOfTheLatestAct();
        noTraceThen();
        keepRefused();
        keepNothing();
        keepAnother();
        rowRefused();
        rowOfASizeBelowZero();
        rowsOfNoneToSixty();
        rowsAtFirst();
        putRefused();
        putNothingThere();
        putOfAnotherKind();
        putNoPlace();
        putLowestBits();
        elementRefused();
        elementThatIsTheLeast();
        shiftRefused();
        shiftNothingThere();
        shiftOfAnotherKind();
        shiftNoPlace();
        shiftOfNone();
        shiftOfAll();
        shiftAsTheyWereBefore();
        shiftOfOneRow();
        takenRefused();
        takenNothingThere();
        takenOfAnotherKind();
        countRefused();
        countsAtTheirEdges();
        Due.end();
    }

    // ---- promises 33 to 35

    private static void bodyRefused() {
        Due.by("33: BAD: a KIND (0 .. 7)");
        CradleVeto x = new CradleVeto();
        for (int kind : NO_KIND) Due.is("body(" + kind + ")", x.body(kind), Due.BAD);
        Due.is("none is kept", x.count(4), 0);
        Due.is("body(0)", x.body(0), 0);
        Due.is("body(7)", x.body(7), 1);
    }

    private static void bodiesFull() {
        Due.by("33: FULL: BODIES 0 .. 49");
        CradleVeto x = new CradleVeto();
        for (int i = 0; i < 49; i++) x.body(7);
        Due.is("the fiftieth", x.body(1), 49);
        Due.is("one more", x.body(1), Due.FULL);
        Due.is("BAD ahead of FULL", x.body(8), Due.BAD);
        Due.is("fifty", x.count(4), 50);
        Due.is("the fiftieth reads", x.act(49, 0, 1), 1 + 49 + 3);
        Due.is("no more", x.act(50, 0, 1), 0);
    }

    private static void actOfNoBody() {
        Due.by("34: 0, and no TRACE then: no such BODY");
        CradleVeto x = new CradleVeto();
        Due.is("without any", x.act(0, 0, 9), 0);
        x.body(0);
        for (int body : new int[] {-1, 1, 49, 50, FAR, FAR_BELOW}) {
            Due.is("act(0, 0, 9)", x.act(0, 0, 9), 9);
            Due.is("it ran", x.trace(0), 1);
            Due.is("act(" + body + ", 0, 9)", x.act(body, 0, 9), 0);
            Due.is("no trace", x.trace(0), Due.BAD);
            Due.is("none ran", x.count(5), 0);
        }
    }

    private static void actOfNoAct() {
        Due.by("34: 0, and no TRACE then: no such ACT (0 .. 3)");
        CradleVeto x = new CradleVeto();
        x.body(0);
        for (int act : new int[] {-1, 4, 5, FAR, FAR_BELOW}) {
            Due.is("act(0, 3, 9)", x.act(0, 3, 9), 17);
            Due.is("it ran", x.trace(0), 2);
            Due.is("act(0, " + act + ", 9)", x.act(0, act, 9), 0);
            Due.is("no trace", x.trace(0), Due.BAD);
            Due.is("none ran", x.count(5), 0);
        }
    }

    private static void actsThatWrap() {
        Due.by("34: x (an int that wraps)");
        CradleVeto x = new CradleVeto();
        for (int kind = 0; kind < 8; kind++) x.body(kind);
        Due.is("twice the most", x.act(0, 1, FAR), -2);
        Due.is("twice the least", x.act(0, 1, FAR_BELOW), 0);
        Due.is("the most and 1 and 3", x.act(1, 0, FAR), FAR_BELOW + 3);
        Due.is("less the least", x.act(2, 1, FAR_BELOW >> 1), -(FAR_BELOW + 4));
        Due.is("the most and one", x.act(3, 1, FAR), -6);
        Due.is("three times", x.act(3, 2, FAR), (FAR ^ 3) * 3);
        Due.is("the most less one", x.act(7, 0, FAR), (FAR + 7) * 2 - 1);
        Due.is("the least reads", x.act(6, 0, FAR_BELOW), 12);
        Due.is("the most tells", x.act(0, 3, FAR), -2 - 1);
        Due.is("the least by turns", x.act(4, 2, FAR_BELOW), FAR_BELOW ^ 4);
    }

    private static void tracesRefused() {
        Due.by("35: BAD: THE TRACE has no i-th body");
        CradleVeto x = new CradleVeto();
        Due.is("ahead of all acts", x.trace(0), Due.BAD);
        x.body(5);
        x.act(0, 3, 1);
        int ran = x.count(5);
        Due.is("the last", x.trace(ran - 1), 1);
        for (int i : new int[] {-1, ran, ran + 1, 23, 24, 25, FAR, FAR_BELOW}) Due.is("trace(" + i + ")", x.trace(i), Due.BAD);
    }

    private static void tracesOfTheLatestAct() {
        Due.by("35: the bodies that ran in the latest act(), as they began");
        CradleVeto x = new CradleVeto();
        x.body(5);
        x.act(0, 3, 1);
        int[] due = {61, 2, 41, 30, 10, 1, 60, 40, 11, 1};
        for (int i = 0; i < due.length; i++) Due.is("trace(" + i + ")", x.trace(i), due[i]);
        Due.is("ten", x.count(5), 10);
        x.act(0, 0, 1);
        Due.is("the latest", x.trace(0), 1);
        Due.is("one alone", x.trace(1), Due.BAD);
        Due.is("one", x.count(5), 1);
    }

    private static void noTraceThen() {
        Due.by("35: no TRACE then (behind an act of none); other calls leave it");
        CradleVeto x = new CradleVeto();
        x.body(1);
        x.act(0, 0, 1);
        x.body(8);
        x.body(2);
        x.keep(0, 1);
        x.taken(0, 0);
        Due.is("trace(0)", x.trace(0), 20);
        Due.is("trace(1)", x.trace(1), 1);
        x.act(2, 0, 1);
        Due.is("trace(0)", x.trace(0), Due.BAD);
    }

    // ---- promises 36 and 37

    private static void keepRefused() {
        Due.by("36: BAD");
        CradleVeto x = new CradleVeto();
        Due.is("without bodies", x.keep(0, 0), Due.BAD);
        x.body(3);
        x.keep(0, 0);
        for (int body : new int[] {-2, 1, 49, 50, FAR, FAR_BELOW}) Due.is("keep(0, " + body + ")", x.keep(0, body), Due.BAD);
        for (int shelf : NO_SHELF) {
            Due.is("keep(" + shelf + ", 0)", x.keep(shelf, 0), Due.BAD);
            Due.is("keep(" + shelf + ", -1)", x.keep(shelf, -1), Due.BAD);
        }
        Due.is("it is there", x.taken(0, 0), 3);
    }

    private static void keepNothing() {
        Due.by("36: a SHELF holds nothing (body -1)");
        CradleVeto x = new CradleVeto();
        x.body(3);
        for (int shelf = 0; shelf < 6; shelf++) {
            Due.is("nothing for nothing", x.keep(shelf, -1), 1);
            x.keep(shelf, 0);
            Due.is("nothing for a body", x.keep(shelf, -1), 1);
            Due.is("nothing there", x.taken(shelf, 0), -11);
            x.row(shelf, INTS, 5);
            Due.is("nothing for a row", x.keep(shelf, -1), 1);
            Due.is("nothing there", x.put(shelf, 0, 1), -11);
        }
        Due.is("the body is still kept", x.count(4), 1);
    }

    private static void keepAnother() {
        Due.by("36: a SHELF holds a BODY, or a ROW: the latest alone");
        CradleVeto x = new CradleVeto();
        x.body(3);
        x.body(6);
        x.keep(0, 0);
        x.keep(1, 0);
        Due.is("another body", x.keep(0, 1), 1);
        Due.is("that one", x.taken(0, 0), 6);
        Due.is("the same on another shelf", x.taken(1, 0), 3);
        Due.is("a row for a body", x.row(0, BYTES, 1), 1);
        Due.is("no body", x.taken(0, 0), -12);
        Due.is("a body for a row", x.keep(0, 1), 1);
        Due.is("no row", x.put(0, 0, 1), -12);
        Due.is("a body", x.taken(0, 6), 6);
    }

    private static void rowRefused() {
        Due.by("37: BAD (sort, n above 60)");
        CradleVeto x = new CradleVeto();
        x.body(2);
        x.keep(0, 0);
        for (int shelf : NO_SHELF) Due.is("row(" + shelf + ", 0, 1)", x.row(shelf, 0, 1), Due.BAD);
        for (int sort : new int[] {-1, 5, 6, FAR, FAR_BELOW}) Due.is("row(0, " + sort + ", 1)", x.row(0, sort, 1), Due.BAD);
        for (int n : new int[] {61, 62, 120, FAR}) Due.is("row(0, 0, " + n + ")", x.row(0, 0, n), Due.BAD);
        Due.is("it is as it was", x.taken(0, 2), 2);
    }

    private static void rowOfASizeBelowZero() {
        Due.by("37: -14: a size below 0; BAD ahead of it");
        CradleVeto x = new CradleVeto();
        x.row(0, INTS, 2);
        x.put(0, 1, 7);
        for (int n : new int[] {-1, -2, -60, FAR_BELOW}) {
            for (int sort = 0; sort < 5; sort++) Due.is("row(0, " + sort + ", " + n + ")", x.row(0, sort, n), -14);
            Due.is("no such shelf", x.row(6, 0, n), Due.BAD);
            Due.is("no such shelf", x.row(-1, 0, n), Due.BAD);
            Due.is("no such sort", x.row(0, 5, n), Due.BAD);
            Due.is("no such sort", x.row(0, -1, n), Due.BAD);
        }
        Due.is("it is as it was", x.element(0, 1), 7);
    }

    private static void rowsOfNoneToSixty() {
        Due.by("37: of 0 .. 60 elements");
        for (int n = 0; n <= 60; n++) {
            CradleVeto x = new CradleVeto();
            int sort = n % 5;
            Due.is("row(5, " + sort + ", " + n + ")", x.row(5, sort, n), 1);
            if (n > 0) Due.is("the first", x.put(5, 0, 1), 1);
            if (n > 0) Due.is("the last", x.put(5, n - 1, 1), 1);
            Due.is("none behind", x.put(5, n, 1), -13);
            Due.is("none behind", x.element(5, n), Due.NONE);
        }
    }

    private static void rowsAtFirst() {
        Due.by("37: 0 at first (false)");
        CradleVeto x = new CradleVeto();
        for (int sort = 0; sort < 5; sort++) {
            x.row(sort, sort, 3);
            for (int i = 0; i < 3; i++) Due.is("element", x.element(sort, i), 0);
            for (int i = 0; i < 3; i++) x.put(sort, i, -1);
            x.row(sort, sort, 4);
            for (int i = 0; i < 4; i++) Due.is("another row's", x.element(sort, i), 0);
        }
    }

    // ---- promises 38 and 39

    private static void putRefused() {
        Due.by("38: BAD: no such shelf; ahead of -11 to -13");
        CradleVeto x = new CradleVeto();
        for (int shelf : NO_SHELF) Due.is("put(" + shelf + ")", x.put(shelf, -1, 1), Due.BAD);
    }

    private static void putNothingThere() {
        Due.by("38: -11 nothing is there; ahead of -13");
        CradleVeto x = new CradleVeto();
        for (int i : new int[] {-1, 0, 60, FAR, FAR_BELOW}) {
            Due.is("put(0, " + i + ")", x.put(0, i, 1), -11);
            Due.is("element(0, " + i + ")", x.element(0, i), Due.NONE);
        }
    }

    private static void putOfAnotherKind() {
        Due.by("38: -12 it is of another kind; ahead of -13");
        CradleVeto x = new CradleVeto();
        x.body(0);
        x.keep(0, 0);
        for (int i : new int[] {-1, 0, 60, FAR, FAR_BELOW}) {
            Due.is("put(0, " + i + ")", x.put(0, i, 1), -12);
            Due.is("element(0, " + i + ")", x.element(0, i), Due.NONE);
        }
    }

    private static void putNoPlace() {
        Due.by("38: -13 a place that is not there");
        CradleVeto x = new CradleVeto();
        for (int sort = 0; sort < 5; sort++) {
            x.row(0, sort, 3);
            for (int i : new int[] {-1, 3, 4, 59, 60, FAR, FAR_BELOW}) {
                Due.is("put(0, " + i + ")", x.put(0, i, 1), -13);
                Due.is("element(0, " + i + ")", x.element(0, i), Due.NONE);
            }
            for (int i = 0; i < 3; i++) Due.is("as it was", x.element(0, i), 0);
        }
    }

    private static void kept(int sort, long v, long due) {
        CradleVeto x = new CradleVeto();
        x.row(0, sort, 2);
        Due.is("put(0, 1, " + v + ") of sort " + sort, x.put(0, 1, v), 1);
        Due.is("element of " + v + ", sort " + sort, x.element(0, 1), due);
        Due.is("the other one", x.element(0, 0), 0);
    }

    private static void putLowestBits() {
        Due.by("38: what is put in keeps its lowest bits (a boolean: whether it is not 0; 1 or 0)");
        long[] values = {0, 1, -1, 127, 128, 255, 256, -128, -129, 32767, 32768, 65535, 65536, -32768, -32769, 2147483647L,
            2147483648L, 4294967295L, 4294967296L, -2147483648L, -2147483649L, Long.MAX_VALUE, Long.MIN_VALUE};
        for (long v : values) {
            kept(BYTES, v, (byte) v);
            kept(SHORTS, v, (short) v);
            kept(INTS, v, (int) v);
            kept(LONGS, v, v);
            kept(BOOLEANS, v, v == 0 ? 0 : 1);
        }
        kept(BYTES, 128, -128);
        kept(BYTES, 256, 0);
        kept(SHORTS, 32768, -32768);
        kept(INTS, 4294967295L, -1);
        kept(BOOLEANS, 256, 1);
        kept(BOOLEANS, Long.MIN_VALUE, 1);
    }

    private static void elementRefused() {
        Due.by("39: Long.MIN_VALUE: BAD");
        CradleVeto x = new CradleVeto();
        for (int shelf = 0; shelf < 6; shelf++) x.row(shelf, LONGS, 60);
        for (int shelf : NO_SHELF) Due.is("element(" + shelf + ", 0)", x.element(shelf, 0), Due.NONE);
        Due.is("element(5, 59)", x.element(5, 59), 0);
        Due.is("element(5, 60)", x.element(5, 60), Due.NONE);
    }

    private static void elementThatIsTheLeast() {
        Due.by("39: element i of a ROW (Long.MIN_VALUE of a row of longs, too)");
        CradleVeto x = new CradleVeto();
        x.row(0, LONGS, 1);
        Due.is("put", x.put(0, 0, Long.MIN_VALUE), 1);
        Due.is("element", x.element(0, 0), Long.MIN_VALUE);
        x.put(0, 0, Long.MAX_VALUE);
        Due.is("element", x.element(0, 0), Long.MAX_VALUE);
    }

    // ---- promise 40

    private static void shift(CradleVeto x, int shelf, int i, int other, int j, int n, int due) {
        Due.is("shift(" + shelf + ", " + i + ", " + other + ", " + j + ", " + n + ")", x.shift(shelf, i, other, j, n), due);
    }

    private static void shiftRefused() {
        Due.by("40: BAD: no such shelf; ahead of -11 to -13");
        CradleVeto x = new CradleVeto();
        x.row(0, INTS, 3);
        for (int shelf : NO_SHELF) {
            shift(x, shelf, 0, 0, 0, 1, Due.BAD);
            shift(x, 0, 0, shelf, 0, 1, Due.BAD);
            shift(x, shelf, -1, 1, -1, -1, Due.BAD);
            shift(x, 1, -1, shelf, -1, -1, Due.BAD);
        }
    }

    private static void shiftNothingThere() {
        Due.by("40: -11 (either); ahead of -12, -13");
        CradleVeto x = new CradleVeto();
        x.row(0, INTS, 3);
        x.body(0);
        x.keep(1, 0);
        shift(x, 0, 0, 2, 0, 1, -11);
        shift(x, 2, 0, 0, 0, 1, -11);
        shift(x, 2, 0, 3, 0, 0, -11);
        shift(x, 2, 0, 2, 0, 0, -11);
        shift(x, 1, 0, 2, 0, 1, -11);
        shift(x, 2, 0, 1, 0, 1, -11);
        shift(x, 0, -1, 2, 9, -1, -11);
        shift(x, 2, -1, 0, 9, -1, -11);
    }

    private static void shiftOfAnotherKind() {
        Due.by("40: -12 (no ROWS, or of unlike sorts); ahead of -13");
        CradleVeto x = new CradleVeto();
        x.body(0);
        x.keep(5, 0);
        for (int sort = 0; sort < 5; sort++) x.row(sort, sort, 3);
        for (int a = 0; a < 6; a++) {
            for (int b = 0; b < 6; b++) {
                int due = a == b && a < 5 ? 0 : -12;
                shift(x, a, 0, b, 0, 0, due);
                shift(x, a, 0, b, 0, -1, due == 0 ? -13 : -12);
                shift(x, a, 4, b, 4, 0, due == 0 ? -13 : -12);
            }
        }
    }

    private static void shiftNoPlace() {
        Due.by("40: -13 (n below 0, too)");
        CradleVeto x = new CradleVeto();
        x.row(0, INTS, 4);
        x.row(1, INTS, 2);
        for (int i = 0; i < 4; i++) x.put(0, i, 1 + i);
        int[][] wrong = {{0, 0, -1}, {-1, 0, 1}, {0, -1, 1}, {3, 0, 2}, {0, 1, 2}, {0, 0, 3}, {4, 0, 1}, {0, 2, 1}, {5, 0, 0}, {0, 3, 0},
            {-1, 0, 0}, {0, -1, 0}, {FAR, 0, 1}, {0, FAR, 1}, {1, 1, FAR}, {0, 0, FAR}, {0, 0, FAR_BELOW}, {FAR, FAR, FAR}, {FAR_BELOW, 0, 1}};
        for (int[] each : wrong) shift(x, 0, each[0], 1, each[1], each[2], -13);
        Due.is("as it was", x.element(1, 0), 0);
        Due.is("as it was", x.element(1, 1), 0);
    }

    private static void shiftOfNone() {
        Due.by("40: n elements: none of them, at the very end, too");
        CradleVeto x = new CradleVeto();
        x.row(0, BYTES, 4);
        x.row(1, BYTES, 0);
        shift(x, 0, 0, 1, 0, 0, 0);
        shift(x, 0, 4, 1, 0, 0, 0);
        shift(x, 1, 0, 0, 4, 0, 0);
        shift(x, 1, 0, 1, 0, 0, 0);
        shift(x, 1, 0, 0, 0, 1, -13);
        shift(x, 0, 0, 1, 0, 1, -13);
    }

    private static void shiftOfAll() {
        Due.by("40: n elements: all sixty");
        CradleVeto x = new CradleVeto();
        x.row(0, LONGS, 60);
        x.row(1, LONGS, 60);
        for (int i = 0; i < 60; i++) x.put(0, i, Long.MIN_VALUE + i);
        shift(x, 0, 0, 1, 0, 60, 60);
        for (int i = 0; i < 60; i++) Due.is("element(1, " + i + ")", x.element(1, i), Long.MIN_VALUE + i);
        shift(x, 0, 0, 1, 0, 61, -13);
    }

    private static void shiftAsTheyWereBefore() {
        Due.by("40: (or the same) as they all were before");
        for (int sort = 0; sort < 4; sort++) {
            for (int to = 0; to <= 4; to++) {
                CradleVeto x = new CradleVeto();
                x.row(0, sort, 6);
                for (int i = 0; i < 6; i++) x.put(0, i, 10 + i);
                shift(x, 0, 2, 0, to, 2, 2);
                for (int i = 0; i < 6; i++) {
                    int due = i == to ? 12 : i == to + 1 ? 13 : 10 + i;
                    Due.is("element(0, " + i + ") of sort " + sort + " to " + to, x.element(0, i), due);
                }
            }
        }
    }

    private static void shiftOfOneRow() {
        Due.by("40: come to another one: that alone is changed");
        CradleVeto x = new CradleVeto();
        x.row(0, SHORTS, 3);
        x.row(1, SHORTS, 5);
        for (int i = 0; i < 3; i++) x.put(0, i, 7 + i);
        shift(x, 0, 1, 1, 3, 2, 2);
        int[] due = {0, 0, 0, 8, 9};
        for (int i = 0; i < 5; i++) Due.is("element(1, " + i + ")", x.element(1, i), due[i]);
        for (int i = 0; i < 3; i++) Due.is("element(0, " + i + ")", x.element(0, i), 7 + i);
        x.put(0, 1, 99);
        Due.is("a place of its own", x.element(1, 3), 8);
    }

    // ---- promises 41 and 42

    private static void takenRefused() {
        Due.by("41: BAD: no such shelf, no such KIND; ahead of -11, -12");
        CradleVeto x = new CradleVeto();
        x.body(0);
        x.keep(0, 0);
        x.row(1, BYTES, 1);
        for (int shelf : NO_SHELF) Due.is("taken(" + shelf + ", 0)", x.taken(shelf, 0), Due.BAD);
        for (int k : NO_KIND) {
            for (int shelf = 0; shelf < 3; shelf++) Due.is("taken(" + shelf + ", " + k + ")", x.taken(shelf, k), Due.BAD);
        }
    }

    private static void takenNothingThere() {
        Due.by("41: -11");
        CradleVeto x = new CradleVeto();
        for (int k = 0; k < 8; k++) Due.is("taken(0, " + k + ")", x.taken(0, k), -11);
    }

    private static void takenOfAnotherKind() {
        Due.by("41: taken for a BODY of KIND k, or under it: -12");
        String[] under = {"01234567", "14", "235", "35", "4", "5", "67", "7"};
        CradleVeto x = new CradleVeto();
        for (int kind = 0; kind < 8; kind++) {
            x.keep(0, x.body(kind));
            for (int k = 0; k < 8; k++) {
                boolean is = under[k].indexOf((char) ('0' + kind)) >= 0;
                Due.is("kind " + kind + " for " + k, x.taken(0, k), is ? kind : -12);
            }
        }
        for (int sort = 0; sort < 5; sort++) {
            x.row(1, sort, sort);
            for (int k = 0; k < 8; k++) Due.is("a row for " + k, x.taken(1, k), -12);
        }
    }

    private static void countRefused() {
        Due.by("42: BAD: what 0 .. 5");
        CradleVeto x = new CradleVeto();
        for (int what : new int[] {-1, 6, 7, FAR, FAR_BELOW}) Due.is("count(" + what + ")", x.count(what), Due.BAD);
    }

    private static void countsAtTheirEdges() {
        Due.by("42: how many: of none, of as many as there may be, of one more");
        CradleVeto x = new CradleVeto();
        for (int what = 0; what < 6; what++) Due.is("count(" + what + ")", x.count(what), 0);
        for (int i = 1; i <= 121; i++) {
            if (i <= 11) x.bill(11);
            if (i <= 7) x.senator(1, 1);
            x.feed('1');
            if (i <= 41) x.mend(0, 8, i);
            if (i <= 51) x.body(5);
        }
        int[] due = {10, 6, 120, 40, 50, 0};
        for (int what = 0; what < 6; what++) Due.is("count(" + what + ")", x.count(what), due[what]);
        x.act(49, 3, 1);
        Due.is("all that ran", x.count(5), 10);
        x.undo();
        Due.is("one less may be undone", x.count(3), 39);
        x.redo();
        Due.is("as many again", x.count(3), 40);
    }
}
