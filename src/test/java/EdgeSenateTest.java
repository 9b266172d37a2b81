import java.util.Arrays;

/** Edges of promises 1 to 6: each sentence that names one has a test of its own. */
public final class EdgeSenateTest {
    private static final int FAR = Integer.MAX_VALUE, FAR_BELOW = Integer.MIN_VALUE;
    /** By what of mend(): the least and the most that it may be. */
    private static final int[] LEAST = {1, 0, 0, 0, 0, 0, 0, 0, 0, FAR_BELOW};
    private static final int[] MOST = {9, 9, 3, 99, 9, 2, 9, 9, 95, FAR};

    public static void main(String[] args) {
        anEmptySenate();
        anInfantAtFirst();
        noLawAtFirst();
        nothingKeptAtFirst();
        billTooSmall();
        billTooLarge();
        billsLeastAndMost();
        billsAtFirst();
        billsFull();
        billsAsTheyCome();
        rowsOfNoShelf();
        rowsOfNoCount();
        rowsOfAnotherKind();
        rowsThatAreMissing();
        placesBelowZero();
        placesBehindTheEnd();
        rowsThatEndWithinAThree();
        threesThatMayNotBe();
        threesAtTheirEdges();
        noMoreThanTold();
        rowsWhileFull();
        senatorsTooSmallOrLarge();
        senatorsLeastAndMost();
        senatorsFull();
        mendLeastAndMost();
        mendTooSmallOrLarge();
        mendNoSuchNumber();
        mendNoSuchWhat();
        mendAnotherNumberOfTheInfant();
        mendTheSame();
        ofNoSuch();
        ofASeedThatIsVoid();
        Due.end();
    }

    // ---- promise 1

    private static void anEmptySenate() {
        Due.by("1: an empty senate");
        CradleVeto x = new CradleVeto();
        for (int what = 0; what < 6; what++) {
            Due.is("count(" + what + ")", x.count(what), 0);
            Due.is("led(" + what + ")", x.led(what), 0);
            Due.is("of(0, " + what + ")", x.of(0, what), Due.VOID);
        }
    }

    private static void anInfantAtFirst() {
        Due.by("1: TEETH, WIND, SINCE are 0 at first, SEED is 1");
        CradleVeto x = new CradleVeto();
        Due.is("teeth", x.of(0, 6), 0);
        Due.is("wind", x.of(0, 7), 0);
        Due.is("since", x.of(0, 8), 0);
        Due.is("seed", x.of(0, 9), 1);
    }

    private static void noLawAtFirst() {
        Due.by("1: without a text: f by 4, t by 3, w by 3, r by 3, s by 3, together, less 2");
        CradleVeto x = new CradleVeto();
        x.bill(99);
        x.senator(9, 0);
        Due.is("cross(0)", x.cross(0), 2 + 3 + 3 - 2);
        Due.is("law()", x.law(), -100);
        Due.is("cross(0) then", x.cross(0), 6);
    }

    private static void nothingKeptAtFirst() {
        Due.by("1: shelves hold nothing at first, there is no image, no change, no trace");
        CradleVeto x = new CradleVeto();
        for (int shelf = 0; shelf < 6; shelf++) {
            Due.is("taken", x.taken(shelf, 0), -11);
            Due.is("put", x.put(shelf, 0, 1), -11);
        }
        Due.is("back", x.back(), Due.STATE);
        Due.is("undo", x.undo(), Due.STATE);
        Due.is("redo", x.redo(), Due.STATE);
        Due.is("trace", x.trace(0), Due.BAD);
        Due.is("act", x.act(0, 0, 5), 0);
    }

    // ---- promise 2

    private static void billTooSmall() {
        Due.by("2: LENGTH is 1 at least");
        CradleVeto x = new CradleVeto();
        for (int ls = -110; ls < 10; ls++) Due.is("bill(" + ls + ")", x.bill(ls), Due.BAD);
        Due.is("bill(least)", x.bill(FAR_BELOW), Due.BAD);
        Due.is("none came", x.count(0), 0);
    }

    private static void billTooLarge() {
        Due.by("2: LENGTH is 9 at most, SHARP too");
        CradleVeto x = new CradleVeto();
        for (int ls = 100; ls < 130; ls++) Due.is("bill(" + ls + ")", x.bill(ls), Due.BAD);
        for (int ls : new int[] {910, 991, 1000, FAR}) Due.is("bill(" + ls + ")", x.bill(ls), Due.BAD);
        Due.is("none came", x.count(0), 0);
    }

    private static void billsLeastAndMost() {
        Due.by("2: ls is 10 times LENGTH, and SHARP");
        for (int ls = 10; ls < 100; ls++) {
            CradleVeto x = new CradleVeto();
            Due.is("bill(" + ls + ")", x.bill(ls), 0);
            Due.is("length", x.of(0, 0), ls / 10);
            Due.is("sharp", x.of(0, 1), ls % 10);
        }
    }

    private static void billsAtFirst() {
        Due.by("2: MATTER is 0 at first, WORTH 10");
        CradleVeto x = new CradleVeto();
        for (int b = 0; b < 10; b++) {
            x.bill(99 - b);
            Due.is("matter", x.of(b, 2), 0);
            Due.is("worth", x.of(b, 3), 10);
        }
    }

    private static void billsFull() {
        Due.by("2: FULL: 10");
        CradleVeto x = Senates.plain(9, 0);
        Due.is("the tenth", x.bill(98), 9);
        Due.is("the eleventh", x.bill(11), Due.FULL);
        Due.is("BAD ahead of FULL", x.bill(9), Due.BAD);
        Due.is("BAD ahead of FULL", x.bill(100), Due.BAD);
        Due.is("ten", x.count(0), 10);
        Due.is("the tenth is as it was", x.of(9, 1), 8);
        Due.is("no eleventh", x.of(10, 1), Due.VOID);
    }

    private static void billsAsTheyCome() {
        Due.by("2: BILLS 0 .. 9, as they come");
        CradleVeto x = new CradleVeto();
        Due.is("the first", x.bill(12), 0);
        Due.is("none by a refusal", x.bill(5), Due.BAD);
        Due.is("the second", x.bill(34), 1);
        Due.is("its sharp", x.of(1, 1), 4);
    }

    // ---- promise 3

    private static void rowsOfNoShelf() {
        Due.by("3: BAD: no such shelf");
        CradleVeto x = Senates.plain(0, 0);
        for (int shelf : new int[] {-1, 6, FAR, FAR_BELOW}) Due.is("bills(" + shelf + ")", x.bills(shelf, 0, 1), Due.BAD);
    }

    private static void rowsOfNoCount() {
        Due.by("3: n (1 .. 10) of them");
        CradleVeto x = new CradleVeto();
        Senates.bytes(x, 0, 1, 2, 3);
        for (int n : new int[] {0, -1, 11, FAR, FAR_BELOW}) Due.is("bills(0, 0, " + n + ")", x.bills(0, 0, n), Due.BAD);
        Due.is("none came", x.count(0), 0);
        Due.is("bills(0, 0, 1)", x.bills(0, 0, 1), 1);
        Due.is("bills(0, 0, 10)", x.bills(0, 0, 10), 1);
    }

    private static void rowsOfAnotherKind() {
        Due.by("3: -12: no ROW of bytes");
        CradleVeto x = new CradleVeto();
        x.body(2);
        x.keep(0, 0);
        Due.is("a body", x.bills(0, 0, 1), -12);
        for (int sort = 1; sort < 5; sort++) {
            x.row(0, sort, 3);
            for (int i = 0; i < 3; i++) x.put(0, i, 1);
            Due.is("a row of sort " + sort, x.bills(0, 0, 1), -12);
            Due.is("BAD ahead of it", x.bills(0, 0, 0), Due.BAD);
            Due.is("ahead of a place below 0, too", x.bills(0, -1, 1), -12);
        }
        Due.is("none came", x.count(0), 0);
    }

    private static void rowsThatAreMissing() {
        Due.by("3: a SHELF that holds nothing is missing: none come");
        CradleVeto x = new CradleVeto();
        for (int shelf = 0; shelf < 6; shelf++) Due.is("bills(" + shelf + ")", x.bills(shelf, 0, 10), 0);
        Senates.bytes(x, 2, 1, 2, 3);
        x.keep(2, -1);
        Due.is("a row that was", x.bills(2, 0, 1), 0);
        Due.is("none came", x.count(0), 0);
    }

    private static void placesBelowZero() {
        Due.by("3: 0 with i below 0");
        CradleVeto x = new CradleVeto();
        Senates.bytes(x, 0, 1, 1, 1, 1, 1, 1, 1);
        for (int i : new int[] {-1, -2, -3, FAR_BELOW}) Due.is("bills(0, " + i + ")", x.bills(0, i, 10), 0);
        Due.is("none came", x.count(0), 0);
    }

    private static void placesBehindTheEnd() {
        Due.by("3: it ends where the row ends");
        CradleVeto x = new CradleVeto();
        Senates.bytes(x, 0, 1, 1, 1);
        for (int i : new int[] {3, 4, 60, FAR, FAR - 1, FAR - 2}) Due.is("bills(0, " + i + ")", x.bills(0, i, 10), 0);
        x.row(0, 0, 0);
        Due.is("a row of none", x.bills(0, 0, 1), 0);
        Due.is("none came", x.count(0), 0);
        x.row(0, 0, 60);
        for (int i = 57; i < 60; i++) x.put(0, i, 4);
        Due.is("the last three of sixty", x.bills(0, 57, 2), 1);
        Due.is("its worth", x.of(0, 3), 4);
    }

    private static void rowsThatEndWithinAThree() {
        Due.by("3: it ends where the row ends, within a three, too");
        for (int left = 0; left < 3; left++) {
            CradleVeto x = new CradleVeto();
            int[] row = new int[6 + left];
            Arrays.fill(row, 7);
            Senates.bytes(x, 0, row);
            Due.is("left " + left, x.bills(0, 0, 10), 2);
            Due.is("left " + left + ", from 3 on", x.bills(0, 3, 10), 1);
            Due.is("left " + left + ", from 4 on", x.bills(0, 4, 10), left == 0 ? 0 : 1);
            Due.is("left " + left + ", from 6 on", x.bills(0, 6, 10), 0);
        }
    }

    private static void threesThatMayNotBe() {
        Due.by("3: it ends where one is not as it may be: those ahead came");
        int[][] wrong = {{0, 0, 0}, {-1, 0, 0}, {10, 0, 0}, {127, 0, 0}, {-128, 0, 0}, {1, -1, 0}, {1, 10, 0}, {1, 0, -1},
            {1, 0, 100}, {1, 0, -128}};
        for (int[] each : wrong) {
            CradleVeto x = new CradleVeto();
            Senates.bytes(x, 0, 9, 8, 7, each[0], each[1], each[2], 6, 5, 4);
            Due.is("bills", x.bills(0, 0, 3), 1);
            Due.is("one came", x.count(0), 1);
            Due.is("its worth", x.of(0, 3), 7);
            Due.is("none from there on", x.bills(0, 3, 2), 0);
            Due.is("the one behind", x.bills(0, 6, 1), 1);
            Due.is("its worth", x.of(1, 3), 4);
        }
    }

    private static void threesAtTheirEdges() {
        Due.by("3: by threes LENGTH 1 .. 9, SHARP 0 .. 9, WORTH 0 .. 99");
        CradleVeto x = new CradleVeto();
        Senates.bytes(x, 0, 1, 0, 0, 9, 9, 99);
        Due.is("bills", x.bills(0, 0, 2), 2);
        int[] due = {1, 0, 0, 0};
        for (int what = 0; what < 4; what++) Due.is("the least, " + what, x.of(0, what), due[what]);
        due = new int[] {9, 9, 0, 99};
        for (int what = 0; what < 4; what++) Due.is("the most, " + what, x.of(1, what), due[what]);
    }

    private static void noMoreThanTold() {
        Due.by("3: n of them");
        for (int n = 1; n <= 10; n++) {
            CradleVeto x = new CradleVeto();
            int[] row = new int[36];
            Arrays.fill(row, 1);
            Senates.bytes(x, 0, row);
            Due.is("bills(0, 0, " + n + ")", x.bills(0, 0, n), n);
            Due.is("so many came", x.count(0), n);
        }
    }

    private static void rowsWhileFull() {
        Due.by("3: it ends where BILLS are FULL: those ahead came");
        for (int bills = 5; bills <= 10; bills++) {
            CradleVeto x = Senates.plain(bills, 0);
            int[] row = new int[18];
            Arrays.fill(row, 2);
            Senates.bytes(x, 0, row);
            Due.is("with " + bills, x.bills(0, 0, 6), 10 - bills);
            Due.is("ten", x.count(0), 10);
            Due.is("the tenth", x.of(9, 0), bills == 10 ? 1 : 2);
        }
    }

    // ---- promise 4

    private static void senatorsTooSmallOrLarge() {
        Due.by("4: RUMBLE (0 .. 9), PARTY (0 .. 2): BAD");
        CradleVeto x = new CradleVeto();
        int[][] wrong = {{-1, 0}, {10, 0}, {0, -1}, {0, 3}, {10, 3}, {FAR, 0}, {FAR_BELOW, 0}, {0, FAR}, {0, FAR_BELOW}};
        for (int[] each : wrong) Due.is("senator(" + each[0] + ", " + each[1] + ")", x.senator(each[0], each[1]), Due.BAD);
        Due.is("none came", x.count(1), 0);
    }

    private static void senatorsLeastAndMost() {
        Due.by("4: RUMBLE (0 .. 9), PARTY (0 .. 2)");
        for (int rumble = 0; rumble < 10; rumble++) {
            CradleVeto x = new CradleVeto();
            for (int party = 0; party < 3; party++) {
                Due.is("senator(" + rumble + ", " + party + ")", x.senator(rumble, party), party);
                Due.is("rumble", x.of(party, 4), rumble);
                Due.is("party", x.of(party, 5), party);
            }
        }
    }

    private static void senatorsFull() {
        Due.by("4: FULL: 6");
        CradleVeto x = Senates.plain(0, 5);
        Due.is("the sixth", x.senator(9, 2), 5);
        Due.is("the seventh", x.senator(1, 1), Due.FULL);
        Due.is("BAD ahead of FULL", x.senator(-1, 1), Due.BAD);
        Due.is("BAD ahead of FULL", x.senator(1, 3), Due.BAD);
        Due.is("six", x.count(1), 6);
        Due.is("the sixth is as it was", x.of(5, 4), 9);
        Due.is("no seventh", x.of(6, 4), Due.VOID);
    }

    // ---- promises 5 and 6

    private static CradleVeto twoBillsTwoSenators() {
        CradleVeto x = Senates.plain(2, 0);
        x.senator(4, 1);
        x.senator(4, 1);
        return x;
    }

    /** The last number there is for a what. */
    private static int last(int what) {
        return what < 6 ? 1 : 0;
    }

    private static void mendLeastAndMost() {
        Due.by("5: becomes v: what it was (from the least to the most, and back)");
        for (int what = 0; what < 10; what++) {
            CradleVeto x = twoBillsTwoSenators();
            int first = x.of(last(what), what);
            String call = "mend(" + last(what) + ", " + what + ")";
            Due.is(call, x.mend(last(what), what, MOST[what]), first);
            Due.is("is the most", x.of(last(what), what), MOST[what]);
            Due.is(call, x.mend(last(what), what, LEAST[what]), MOST[what]);
            Due.is("is the least", x.of(last(what), what), LEAST[what]);
            Due.is(call, x.mend(last(what), what, MOST[what]), LEAST[what]);
            Due.is("three changes", x.count(3), 3);
        }
    }

    private static void mendTooSmallOrLarge() {
        Due.by("5: VOID: BAD (v is not as it may be)");
        for (int what = 0; what < 9; what++) {
            CradleVeto x = twoBillsTwoSenators();
            int first = x.of(0, what);
            for (int v : new int[] {LEAST[what] - 1, MOST[what] + 1, FAR, FAR_BELOW, Due.VOID}) {
                Due.is("mend(0, " + what + ", " + v + ")", x.mend(0, what, v), Due.VOID);
                Due.is("is as it was", x.of(0, what), first);
            }
            Due.is("no change", x.count(3), 0);
        }
    }

    private static void mendNoSuchNumber() {
        Due.by("5: VOID: BAD (no such bill, no such senator)");
        CradleVeto x = Senates.plain(3, 1);
        for (int what = 0; what < 6; what++) {
            int none = what < 4 ? 3 : 1;
            for (int number : new int[] {none, none + 1, 9, 10, -1, FAR, FAR_BELOW}) {
                Due.is("mend(" + number + ", " + what + ")", x.mend(number, what, 1), Due.VOID);
            }
        }
        Due.is("no change", x.count(3), 0);
    }

    private static void mendNoSuchWhat() {
        Due.by("5: VOID: BAD (what 0 .. 9)");
        CradleVeto x = twoBillsTwoSenators();
        for (int what : new int[] {-1, 10, 11, FAR, FAR_BELOW}) Due.is("mend(0, " + what + ")", x.mend(0, what, 1), Due.VOID);
        Due.is("no change", x.count(3), 0);
    }

    private static void mendAnotherNumberOfTheInfant() {
        Due.by("5: number 0 for these, another: BAD");
        CradleVeto x = Senates.plain(10, 6);
        for (int what = 6; what < 10; what++) {
            for (int number : new int[] {-1, 1, 2, 9, FAR, FAR_BELOW}) {
                Due.is("mend(" + number + ", " + what + ")", x.mend(number, what, 1), Due.VOID);
                Due.is("of(" + number + ", " + what + ")", x.of(number, what), Due.VOID);
            }
        }
        Due.is("no change", x.count(3), 0);
    }

    private static void mendTheSame() {
        Due.by("5: telling the same number is none (of the CHANGES)");
        CradleVeto x = twoBillsTwoSenators();
        for (int what = 0; what < 10; what++) {
            int same = x.of(last(what), what);
            Due.is("mend(" + last(what) + ", " + what + ", " + same + ")", x.mend(last(what), what, same), same);
        }
        Due.is("no change", x.count(3), 0);
        Due.is("none to undo", x.undo(), Due.STATE);
    }

    private static void ofNoSuch() {
        Due.by("6: VOID: BAD");
        CradleVeto x = Senates.plain(3, 1);
        for (int what = 0; what < 10; what++) {
            int none = what < 4 ? 3 : 1;
            Due.is("the last, " + what, x.of(none - 1, what) == Due.VOID ? 1 : 0, 0);
            for (int number : new int[] {none, 10, -1, FAR, FAR_BELOW}) {
                Due.is("of(" + number + ", " + what + ")", x.of(number, what), Due.VOID);
            }
        }
        for (int what : new int[] {-1, 10, FAR, FAR_BELOW}) Due.is("of(0, " + what + ")", x.of(0, what), Due.VOID);
    }

    private static void ofASeedThatIsVoid() {
        Due.by("6: VOID: as SEED may be, too");
        CradleVeto x = new CradleVeto();
        Due.is("mend(0, 9, VOID)", x.mend(0, 9, Due.VOID), 1);
        Due.is("of(0, 9)", x.of(0, 9), Due.VOID);
        Due.is("a change", x.count(3), 1);
        Due.is("mend(0, 9, VOID), the same", x.mend(0, 9, Due.VOID), Due.VOID);
        Due.is("a change alone", x.count(3), 1);
        Due.is("mend(0, 9, 7)", x.mend(0, 9, 7), Due.VOID);
        Due.is("of(0, 9)", x.of(0, 9), 7);
    }
}
