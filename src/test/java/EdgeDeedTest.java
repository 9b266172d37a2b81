/** Edges of promises 24 to 32: each sentence that names one has a test of its own. */
public final class EdgeDeedTest {
    private static final int FAR = Integer.MAX_VALUE, FAR_BELOW = Integer.MIN_VALUE;

    public static void main(String[] args) {
        readRefused();
        readFirstAndLast();
        readSurelyOrNever();
        readJustBelow();
        seedsThatWrap();
        sinceBehindAReading();
        fedAtOnce();
        fedAtNinetyFive();
        bornRefused();
        bornLeastAndMost();
        passRefused();
        passOneToNinetyFive();
        ninetyFiveStays();
        ledRefused();
        ledOfRefusals();
        ledOfFeeds();
        ledWorthAsItIsThen();
        noImage();
        anImageOfNothing();
        imagesAgain();
        anotherImage();
        whatImagesKeep();
        whatImagesDoNotKeep();
        nothingToUndo();
        nothingToDoAgain();
        allNumbersUndone();
        theLatestFirst();
        fortyAtMost();
        fortyOfAllSorts();
        fortyDoneAgain();
        noOtherBehind();
        whatIsNoChange();
        deedsAreNone();
        undoneToTheNumberThatWas();
        Due.end();
    }

    private static CradleVeto one(String law) {
        CradleVeto x = Senates.plain(1, 1);
        Senates.law(x, law);
        return x;
    }

    private static int behind(int seed) {
        return seed * 1103515245 + 12345;
    }

    // ---- promise 24

    private static void readRefused() {
        Due.by("24: BAD");
        CradleVeto x = Senates.plain(2, 2);
        Senates.law(x, "12");
        x.pass(5);
        for (int bs : new int[] {-1, -10, 2, 9, 12, 20, 21, 100, FAR, FAR_BELOW}) Due.is("read(" + bs + ")", x.read(bs), Due.BAD);
        Due.is("seed", x.of(0, 9), 1);
        Due.is("since", x.of(0, 8), 5);
        Due.is("without any", new CradleVeto().read(0), Due.BAD);
        Due.is("without senators", Senates.plain(10, 0).read(0), Due.BAD);
        Due.is("without bills", Senates.plain(0, 6).read(0), Due.BAD);
    }

    private static void readFirstAndLast() {
        Due.by("24: a BILL is READ by a SENATOR (bs: 10 times a BILL, and a SENATOR)");
        CradleVeto x = Senates.plain(10, 6);
        x.mend(9, 1, 9);
        x.mend(5, 4, 9);
        Senates.law(x, "(s=9)&(r=9)?12;0");
        Due.is("read(0)", x.read(0), 1);
        Due.is("read(94)", x.read(94), 1);
        Due.is("read(85)", x.read(85), 1);
        Due.is("read(95)", x.read(95), 0);
        Due.is("read(96)", x.read(96), Due.BAD);
    }

    private static void readSurelyOrNever() {
        Due.by("24: 1 PASSED, 0 it cried: by 0 of twelve never, by 12 always");
        CradleVeto never = one("-5");
        CradleVeto always = one("99");
        for (int i = 0; i < 60; i++) {
            Due.is("never", never.read(0), 1);
            Due.is("always", always.read(0), 0);
        }
        Due.is("led", never.led(2), 60);
        Due.is("led", always.led(1), 60);
    }

    private static void readJustBelow() {
        Due.by("24: it cries, if (z >>> 8) % 12 is below how many of twelve");
        for (int seed = -40; seed < 40; seed++) {
            int drawn = (behind(seed) >>> 8) % 12;
            for (int twelfths = Math.max(0, drawn - 1); twelfths <= Math.min(12, drawn + 1); twelfths++) {
                CradleVeto x = one("" + twelfths);
                x.mend(0, 9, seed);
                Due.is("seed " + seed + ", " + twelfths, x.read(0), drawn < twelfths ? 0 : 1);
            }
        }
    }

    private static void seedsThatWrap() {
        Due.by("24: SEED goes on as z does (an int)");
        for (int seed : new int[] {0, 1, -1, FAR, FAR_BELOW, Due.VOID, 1 << 30}) {
            CradleVeto x = one("6");
            x.mend(0, 9, seed);
            int z = seed;
            for (int i = 0; i < 5; i++) {
                z = behind(z);
                Due.is("read", x.read(0), (z >>> 8) % 12 < 6 ? 0 : 1);
                Due.is("seed", x.of(0, 9), z);
            }
        }
    }

    private static void sinceBehindAReading() {
        Due.by("24: SINCE is more by LENGTH, 95 stays; if it cries: 0");
        CradleVeto x = new CradleVeto();
        x.bill(90);
        x.senator(0, 0);
        Senates.law(x, "0");
        for (int since : new int[] {0, 85, 86, 87, 94, 95}) {
            x.mend(0, 8, since);
            Due.is("passed", x.read(0), 1);
            Due.is("since behind " + since, x.of(0, 8), Math.min(95, since + 9));
        }
        Senates.law(x, "12");
        Due.is("it cried", x.read(0), 0);
        Due.is("since", x.of(0, 8), 0);
    }

    // ---- promises 25 to 27

    private static void fedAtOnce() {
        Due.by("25: what SINCE was: 0 at first, and behind a feed");
        CradleVeto x = new CradleVeto();
        Due.is("fed()", x.fed(), 0);
        x.pass(1);
        Due.is("fed()", x.fed(), 1);
        Due.is("fed()", x.fed(), 0);
        Due.is("since", x.of(0, 8), 0);
        Due.is("feeds", x.led(4), 3);
    }

    private static void fedAtNinetyFive() {
        Due.by("25: what SINCE was: 95 at most");
        CradleVeto x = new CradleVeto();
        x.pass(95);
        x.pass(95);
        Due.is("fed()", x.fed(), 95);
        Due.is("since", x.of(0, 8), 0);
    }

    private static void bornRefused() {
        Due.by("26: BAD: TEETH (0 .. 9), WIND (0 .. 9)");
        CradleVeto x = new CradleVeto();
        x.mend(0, 6, 3);
        x.mend(0, 7, 4);
        x.pass(9);
        for (int v : new int[] {-1, 10, FAR, FAR_BELOW}) {
            Due.is("born(" + v + ", 0)", x.born(v, 0), Due.BAD);
            Due.is("born(0, " + v + ")", x.born(0, v), Due.BAD);
        }
        Due.is("teeth", x.of(0, 6), 3);
        Due.is("wind", x.of(0, 7), 4);
        Due.is("since", x.of(0, 8), 9);
        Due.is("no births", x.led(5), 0);
    }

    private static void bornLeastAndMost() {
        Due.by("26: BORN (TEETH, WIND told, SINCE 0): WIND it has");
        CradleVeto x = new CradleVeto();
        for (int v : new int[] {9, 0, 9}) {
            x.pass(95);
            Due.is("born(" + v + ", " + (9 - v) + ")", x.born(v, 9 - v), 9 - v);
            Due.is("teeth", x.of(0, 6), v);
            Due.is("wind", x.of(0, 7), 9 - v);
            Due.is("since", x.of(0, 8), 0);
        }
        Due.is("seed stays", x.of(0, 9), 1);
        Due.is("births", x.led(5), 3);
        Due.is("no feeds", x.led(4), 0);
    }

    private static void passRefused() {
        Due.by("27: BAD: quarters (1 .. 95)");
        CradleVeto x = new CradleVeto();
        x.pass(3);
        for (int q : new int[] {0, -1, 96, FAR, FAR_BELOW}) Due.is("pass(" + q + ")", x.pass(q), Due.BAD);
        Due.is("since", x.of(0, 8), 3);
    }

    private static void passOneToNinetyFive() {
        Due.by("27: quarters (1 .. 95) PASS: SINCE then");
        for (int q = 1; q <= 95; q++) {
            CradleVeto x = new CradleVeto();
            Due.is("pass(" + q + ")", x.pass(q), q);
            Due.is("since", x.of(0, 8), q);
        }
    }

    private static void ninetyFiveStays() {
        Due.by("27: 95 stays");
        CradleVeto x = new CradleVeto();
        Due.is("pass(94)", x.pass(94), 94);
        Due.is("pass(1)", x.pass(1), 95);
        Due.is("pass(1)", x.pass(1), 95);
        x.mend(0, 8, 94);
        Due.is("pass(2)", x.pass(2), 95);
        x.mend(0, 8, 1);
        Due.is("pass(95)", x.pass(95), 95);
        Due.is("since", x.of(0, 8), 95);
    }

    // ---- promise 28

    private static void ledRefused() {
        Due.by("28: BAD: what 0 .. 5");
        CradleVeto x = one("0");
        x.read(0);
        for (int what : new int[] {-1, 6, 7, FAR, FAR_BELOW}) Due.is("led(" + what + ")", x.led(what), Due.BAD);
    }

    private static void ledOfRefusals() {
        Due.by("28: what is answered so changes nothing");
        CradleVeto x = one("0");
        x.read(1);
        x.read(-1);
        x.born(10, 0);
        x.pass(0);
        x.back();
        for (int what = 0; what < 6; what++) Due.is("led(" + what + ")", x.led(what), 0);
    }

    private static void ledOfFeeds() {
        Due.by("28: feeds (by cries, too)");
        CradleVeto x = one("12");
        x.read(0);
        x.fed();
        x.read(0);
        int[] due = {2, 2, 0, 0, 3, 0};
        for (int what = 0; what < 6; what++) Due.is("led(" + what + ")", x.led(what), due[what]);
    }

    private static void ledWorthAsItIsThen() {
        Due.by("28: WORTH PASSED: 0 .. 99 each, as it is then");
        CradleVeto x = one("0");
        int[] worth = {0, 99, 1, 99};
        int due = 0;
        for (int each : worth) {
            x.mend(0, 3, each);
            x.read(0);
            due += each;
            Due.is("worth", x.led(3), due);
        }
        x.mend(0, 3, 5);
        Due.is("as it was", x.led(3), due);
    }

    // ---- promises 29 and 30

    private static void noImage() {
        Due.by("30: STATE: there is none");
        CradleVeto x = one("0");
        x.read(0);
        x.pass(5);
        Due.is("back()", x.back(), Due.STATE);
        Due.is("since", x.of(0, 8), 6);
        Due.is("readings", x.led(0), 1);
    }

    private static void anImageOfNothing() {
        Due.by("29: AN IMAGE is kept: readings (of a new object: 0)");
        CradleVeto x = new CradleVeto();
        Due.is("image()", x.image(), 0);
        x.born(9, 9);
        x.pass(50);
        x.fed();
        Due.is("back()", x.back(), 0);
        for (int what = 6; what < 10; what++) Due.is("of(0, " + what + ")", x.of(0, what), what == 9 ? 1 : 0);
        for (int what = 0; what < 6; what++) Due.is("led(" + what + ")", x.led(what), 0);
    }

    private static void imagesAgain() {
        Due.by("30: it is laid back: readings (again and again)");
        CradleVeto x = one("6");
        for (int i = 0; i < 4; i++) x.read(0);
        int seed = x.of(0, 9);
        Due.is("image()", x.image(), 4);
        for (int i = 0; i < 3; i++) {
            x.read(0);
            x.read(0);
            Due.is("back()", x.back(), 4);
            Due.is("back() at once", x.back(), 4);
            Due.is("seed", x.of(0, 9), seed);
        }
    }

    private static void anotherImage() {
        Due.by("29: AN IMAGE is kept: the latest alone");
        CradleVeto x = one("0");
        Due.is("image()", x.image(), 0);
        x.read(0);
        Due.is("image()", x.image(), 1);
        x.read(0);
        Due.is("back()", x.back(), 1);
        Due.is("readings", x.led(0), 1);
        Due.is("back()", x.back(), 1);
    }

    private static void whatImagesKeep() {
        Due.by("29: AN IMAGE keeps TEETH, WIND, SINCE, SEED, what LED tells");
        CradleVeto x = one("6");
        x.born(7, 8);
        x.pass(33);
        x.mend(0, 9, -77);
        x.read(0);
        x.fed();
        int[] then = new int[10];
        for (int what = 0; what < 10; what++) then[what] = what < 6 ? x.led(what) : x.of(0, what);
        Due.is("image()", x.image(), 1);
        x.mend(0, 6, 1);
        x.mend(0, 7, 2);
        x.mend(0, 8, 3);
        x.mend(0, 9, 4);
        x.read(0);
        x.read(0);
        x.born(0, 0);
        Due.is("back()", x.back(), 1);
        for (int what = 0; what < 10; what++) Due.is("what " + what, what < 6 ? x.led(what) : x.of(0, what), then[what]);
    }

    private static void whatImagesDoNotKeep() {
        Due.by("29: AN IMAGE keeps nothing but that");
        CradleVeto x = one("3");
        x.image();
        x.bill(23);
        x.senator(4, 2);
        x.mend(0, 0, 5);
        x.mend(0, 3, 77);
        x.body(3);
        x.row(1, 0, 2);
        x.put(1, 1, 9);
        x.act(0, 1, 5);
        Senates.law(x, "8");
        x.feed('1');
        Due.is("back()", x.back(), 0);
        int[] due = {2, 2, 1, 2, 1, 4};
        for (int what = 0; what < 6; what++) Due.is("count(" + what + ")", x.count(what), due[what]);
        Due.is("length", x.of(0, 0), 5);
        Due.is("worth", x.of(0, 3), 77);
        Due.is("law", x.cross(0), 8);
        Due.is("element", x.element(1, 1), 9);
        Due.is("undo", x.undo(), 1);
        Due.is("worth then", x.of(0, 3), 10);
    }

    // ---- promises 31 and 32

    private static void nothingToUndo() {
        Due.by("31: STATE: none");
        CradleVeto x = Senates.plain(1, 1);
        Due.is("undo()", x.undo(), Due.STATE);
        x.mend(0, 3, 5);
        Due.is("undo()", x.undo(), 0);
        Due.is("undo()", x.undo(), Due.STATE);
        Due.is("worth", x.of(0, 3), 10);
        Due.is("it can be done again", x.redo(), 0);
    }

    private static void nothingToDoAgain() {
        Due.by("32: STATE: none");
        CradleVeto x = Senates.plain(1, 1);
        Due.is("redo()", x.redo(), Due.STATE);
        x.mend(0, 3, 5);
        Due.is("redo()", x.redo(), Due.STATE);
        Due.is("undo()", x.undo(), 0);
        Due.is("redo()", x.redo(), 0);
        Due.is("redo()", x.redo(), Due.STATE);
        Due.is("worth", x.of(0, 3), 5);
    }

    private static void allNumbersUndone() {
        Due.by("31, 32: CHANGES (all numbers of mend())");
        for (int what = 0; what < 10; what++) {
            CradleVeto x = Senates.plain(2, 2);
            int number = what < 6 ? 1 : 0;
            int was = x.of(number, what);
            x.mend(number, what, 2);
            Due.is("undo", x.undo(), 0);
            Due.is("as it was, " + what, x.of(number, what), was);
            Due.is("redo", x.redo(), 0);
            Due.is("as told, " + what, x.of(number, what), 2);
        }
    }

    private static void theLatestFirst() {
        Due.by("31: UNDONE, the latest first: how many may still be");
        CradleVeto x = Senates.plain(1, 1);
        for (int v = 1; v <= 4; v++) x.mend(0, 8, 10 * v);
        for (int v = 3; v >= 0; v--) {
            Due.is("undo()", x.undo(), v);
            Due.is("count(3)", x.count(3), v);
            Due.is("since", x.of(0, 8), 10 * v);
        }
        for (int v = 1; v <= 4; v++) {
            Due.is("redo()", x.redo(), 4 - v);
            Due.is("count(3)", x.count(3), v);
            Due.is("since", x.of(0, 8), 10 * v);
        }
    }

    private static void fortyAtMost() {
        Due.by("31: 40 at most are kept");
        for (int made = 38; made <= 43; made++) {
            CradleVeto x = new CradleVeto();
            for (int i = 1; i <= made; i++) x.mend(0, 8, i);
            int kept = Math.min(40, made);
            Due.is("count(3)", x.count(3), kept);
            for (int i = kept - 1; i >= 0; i--) Due.is("undo()", x.undo(), i);
            Due.is("none", x.undo(), Due.STATE);
            Due.is("those ahead stay", x.of(0, 8), made - kept);
        }
    }

    private static void fortyOfAllSorts() {
        Due.by("31, 32: 40 at most are kept: of which number, from what, to what");
        CradleVeto x = Senates.plain(3, 2);
        int[] whats = {3, 8, 4, 1, 9};
        for (int i = 0; i < 47; i++) x.mend(whats[i % 5] == 3 ? i % 3 : 0, whats[i % 5], 1 + i % 8);
        for (int i = 46; i >= 7; i--) {
            int number = whats[i % 5] == 3 ? i % 3 : 0;
            Due.is("as told, " + i, x.of(number, whats[i % 5]), 1 + i % 8);
            Due.is("undo()", x.undo(), i - 7);
        }
        Due.is("none", x.undo(), Due.STATE);
        int[][] stay = {{0, 3, 1}, {2, 3, 6}, {0, 8, 7}, {0, 4, 3}, {0, 1, 4}, {0, 9, 5}};
        for (int[] each : stay) Due.is("those ahead stay: of(" + each[0] + ", " + each[1] + ")", x.of(each[0], each[1]), each[2]);
        for (int i = 7; i < 47; i++) {
            Due.is("redo()", x.redo(), 46 - i);
            Due.is("as told again, " + i, x.of(whats[i % 5] == 3 ? i % 3 : 0, whats[i % 5]), 1 + i % 8);
        }
    }

    private static void fortyDoneAgain() {
        Due.by("32: 40 at most are kept: so many are DONE AGAIN");
        CradleVeto x = new CradleVeto();
        for (int i = 1; i <= 41; i++) x.mend(0, 9, -i);
        for (int i = 0; i < 40; i++) x.undo();
        Due.is("seed", x.of(0, 9), -1);
        for (int i = 39; i >= 0; i--) Due.is("redo()", x.redo(), i);
        Due.is("none", x.redo(), Due.STATE);
        Due.is("seed", x.of(0, 9), -41);
        for (int i = 0; i < 5; i++) x.undo();
        x.mend(0, 9, 5);
        Due.is("count(3)", x.count(3), 36);
        Due.is("none", x.redo(), Due.STATE);
    }

    private static void noOtherBehind() {
        Due.by("32: DONE AGAIN (as long as no other came behind)");
        CradleVeto x = Senates.plain(1, 1);
        x.mend(0, 3, 20);
        x.mend(0, 3, 30);
        x.undo();
        x.mend(0, 6, 4);
        Due.is("redo()", x.redo(), Due.STATE);
        Due.is("count(3)", x.count(3), 2);
        Due.is("undo()", x.undo(), 1);
        Due.is("teeth", x.of(0, 6), 0);
        Due.is("redo()", x.redo(), 0);
        x.undo();
        x.mend(0, 6, 4);
        Due.is("the same one again is another, too", x.redo(), Due.STATE);
        Due.is("worth", x.of(0, 3), 20);
    }

    private static void whatIsNoChange() {
        Due.by("32: telling the same number is none, a refused one neither");
        CradleVeto x = Senates.plain(1, 1);
        x.mend(0, 3, 20);
        x.undo();
        Due.is("the same", x.mend(0, 3, 10), 10);
        Due.is("too large", x.mend(0, 3, 100), Due.VOID);
        Due.is("no such bill", x.mend(1, 3, 5), Due.VOID);
        x.bill(10);
        x.senator(1, 1);
        x.image();
        Senates.law(x, "5");
        x.back();
        Due.is("redo()", x.redo(), 0);
        Due.is("worth", x.of(0, 3), 20);
    }

    private static void deedsAreNone() {
        Due.by("31: deeds are none (TEETH, WIND, SINCE, SEED by them, too)");
        CradleVeto x = one("6");
        x.mend(0, 3, 20);
        x.undo();
        x.read(0);
        x.fed();
        x.born(4, 5);
        x.pass(6);
        Due.is("count(3)", x.count(3), 0);
        Due.is("undo()", x.undo(), Due.STATE);
        Due.is("redo()", x.redo(), 0);
        Due.is("worth", x.of(0, 3), 20);
        Due.is("since", x.of(0, 8), 6);
    }

    private static void undoneToTheNumberThatWas() {
        Due.by("31: UNDONE: the number is what it was ahead of the change, whatever deeds came between");
        CradleVeto x = one("0");
        x.mend(0, 6, 5);
        x.mend(0, 7, 6);
        x.mend(0, 8, 50);
        x.mend(0, 9, 99);
        x.read(0);
        x.born(1, 2);
        x.pass(3);
        for (int left = 3; left >= 0; left--) Due.is("undo()", x.undo(), left);
        int[] due = {0, 0, 0, 1};
        for (int what = 6; what < 10; what++) Due.is("of(0, " + what + ")", x.of(0, what), due[what - 6]);
        Due.is("births stay", x.led(5), 1);
        Due.is("readings stay", x.led(0), 1);
    }
}
