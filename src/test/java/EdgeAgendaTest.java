/** Edges of promises 11 to 16: each sentence that names one has a test of its own. */
public final class EdgeAgendaTest {
    private static final int FAR = Integer.MAX_VALUE, FAR_BELOW = Integer.MIN_VALUE;
    private static final int[] NO_COUNT = {-1, 11, FAR, FAR_BELOW}, NO_PART = {-1, 2, FAR, FAR_BELOW};
    private static final long TWELVE_TO_TEN = 61917364224L, ELEVEN_TO_TEN = 25937424601L;

    public static void main(String[] args) {
        agendasOfNoShelf();
        agendasOfNoRowOfBytes();
        noPart();
        twosThatAreNoSuch();
        twosThatLackOne();
        tenTwosAtMost();
        anEmptyAgenda();
        noKth();
        passesFirstAndLast();
        passesSurelyOrNever();
        noCountOfQuiet();
        quietOfNone();
        quietFromBehindTheEnd();
        quietOfMoreThanThereAre();
        quietAsCriesAhead();
        quietOfTen();
        quietBehindLongerOnes();
        noCountOfMean();
        meanOfNone();
        meanOfMoreThanThereAre();
        meanLeastAndMost();
        meanOfABillAgain();
        sinceStaysInAgendas();
        orderRefused();
        orderOfNone();
        orderOfFive();
        orderOfMoreThanFive();
        orderBehindTheLast();
        orderOfLikeOnes();
        orderFirstAndLastOfAll();
        orderWorthRefused();
        orderWorthOfNone();
        orderWorthLeastAndMost();
        packRefused();
        packOfNone();
        packJustFits();
        packOfLikeOnes();
        packOfAll();
        Due.end();
    }

    private static void fraction(String what, long above, long below, long dueAbove, long dueBelow) {
        Due.is(what + ", above the line", above, dueAbove);
        Due.is(what + ", below the line", below, dueBelow);
    }

    private static void passes(CradleVeto x, int k, long above, long below) {
        fraction("passes(0, " + k + ")", x.passes(0, k, 0), x.passes(0, k, 1), above, below);
    }

    private static void quiet(CradleVeto x, int n, int k, long above, long below) {
        fraction("quiet(0, " + n + ", " + k + ")", x.quiet(0, n, k, 0), x.quiet(0, n, k, 1), above, below);
    }

    private static void mean(CradleVeto x, int n, long above, long below) {
        fraction("mean(0, " + n + ")", x.mean(0, n, 0), x.mean(0, n, 1), above, below);
    }

    /** So many twos of bill 0 by senator 0, at each of which it cries by a law. */
    private static CradleVeto again(int twos, String law) {
        CradleVeto x = Senates.plain(1, 1);
        Senates.law(x, law);
        x.row(0, 0, 2 * twos);
        return x;
    }

    // ---- what all agendas have

    private static void agendasOfNoShelf() {
        Due.by("11, 12, 13: on a SHELF: BAD, as Long.MIN_VALUE");
        CradleVeto x = again(2, "0");
        for (int shelf : new int[] {-1, 6, FAR, FAR_BELOW}) {
            Due.is("passes", x.passes(shelf, 0, 0), Due.NONE);
            Due.is("quiet", x.quiet(shelf, 0, 0, 0), Due.NONE);
            Due.is("mean", x.mean(shelf, 0, 0), Due.NONE);
        }
    }

    private static void agendasOfNoRowOfBytes() {
        Due.by("11, 12, 13: -11, -12 (no ROW of bytes), as Long.MIN_VALUE");
        CradleVeto x = again(2, "0");
        x.body(1);
        x.keep(5, 0);
        for (int sort = 1; sort < 5; sort++) x.row(sort, sort, 4);
        for (int shelf = 1; shelf < 6; shelf++) noAgenda(x, shelf);
        x.keep(0, -1);
        noAgenda(x, 0);
    }

    private static void noAgenda(CradleVeto x, int shelf) {
        for (int part = 0; part < 2; part++) {
            Due.is("passes", x.passes(shelf, 0, part), Due.NONE);
            Due.is("quiet", x.quiet(shelf, 0, 0, part), Due.NONE);
            Due.is("mean", x.mean(shelf, 0, part), Due.NONE);
        }
    }

    private static void noPart() {
        Due.by("11 to 15: part 0 above, 1 below the line; another: BAD");
        CradleVeto x = again(2, "0");
        for (int part : NO_PART) {
            Due.is("passes", x.passes(0, 0, part), Due.NONE);
            Due.is("quiet", x.quiet(0, 0, 0, part), Due.NONE);
            Due.is("mean", x.mean(0, 0, part), Due.NONE);
            Due.is("orderWorth", x.orderWorth(1, 0, part), Due.NONE);
        }
    }

    private static void twosThatAreNoSuch() {
        Due.by("AN AGENDA ends with what is no such");
        int[][] wrong = {{2, 0}, {-1, 0}, {0, 2}, {0, -1}, {10, 0}, {0, 6}, {127, 127}, {-128, -128}};
        for (int[] each : wrong) {
            CradleVeto x = Senates.plain(2, 2);
            Senates.law(x, "0");
            Senates.bytes(x, 0, 1, 1, each[0], each[1], 0, 0);
            passes(x, 0, 1, 1);
            Due.is("no second", x.passes(0, 1, 0), Due.NONE);
            mean(x, 10, 10, 1);
            Senates.bytes(x, 0, each[0], each[1], 0, 0);
            Due.is("no first", x.passes(0, 0, 0), Due.NONE);
            mean(x, 10, 0, 1);
        }
    }

    private static void twosThatLackOne() {
        Due.by("AN AGENDA: by twos: one alone at the end is none");
        CradleVeto x = Senates.plain(1, 1);
        Senates.law(x, "0");
        for (int length = 0; length <= 21; length++) {
            x.row(0, 0, length);
            mean(x, 10, 10 * Math.min(10, length / 2), 1);
        }
    }

    private static void tenTwosAtMost() {
        Due.by("AN AGENDA: 10 twos at most");
        CradleVeto x = again(30, "0");
        passes(x, 9, 1, 1);
        Due.is("no eleventh", x.passes(0, 10, 0), Due.NONE);
        mean(x, 10, 100, 1);
        Due.is("an eleventh is not drawn", x.drawn(1, 0, 100, 0), 10);
        x.put(0, 20, 99);
        mean(x, 10, 100, 1);
    }

    private static void anEmptyAgenda() {
        Due.by("of no READINGS the mean is 0 by 1, none cries: 1 by 1");
        for (int twos = 0; twos < 2; twos++) {
            CradleVeto x = again(twos, "12");
            if (twos == 1) x.put(0, 0, 9);
            for (int n = 0; n <= 10; n++) {
                mean(x, n, 0, 1);
                quiet(x, n, 0, 1, 1);
                quiet(x, n, 10, 1, 1);
            }
            for (int k = 0; k < 10; k++) Due.is("passes", x.passes(0, k, 0), Due.NONE);
        }
    }

    // ---- promise 11

    private static void noKth() {
        Due.by("11: Long.MIN_VALUE also: there is no k-th");
        for (int twos = 0; twos <= 10; twos++) {
            CradleVeto x = again(twos, "0");
            for (int k = 0; k < 10; k++) Due.is("passes(0, " + k + ")", x.passes(0, k, 1), k < twos ? 1 : Due.NONE);
            for (int k : new int[] {-1, 10, 11, FAR, FAR_BELOW}) Due.is("passes(0, " + k + ")", x.passes(0, k, 0), Due.NONE);
        }
    }

    private static void passesFirstAndLast() {
        Due.by("11: how likely the k-th (0 .. 9) PASSES");
        CradleVeto x = again(10, "f");
        passes(x, 0, 11, 12);
        // Of the second: 1 of 12 cried ahead, then f is 1; else it is 2.
        passes(x, 1, 121, 144);
        x.mend(0, 8, 95);
        passes(x, 0, 0, 1);
        passes(x, 1, 11, 12);
        Senates.law(x, "f>9?12;0");
        x.mend(0, 8, 0);
        passes(x, 8, 1, 1);
        passes(x, 9, 0, 1);
    }

    private static void passesSurelyOrNever() {
        Due.by("11: fractions in lowest terms: 1 by 1, 0 by 1");
        for (int k = 0; k < 10; k++) {
            passes(again(10, "0"), k, 1, 1);
            passes(again(10, "12"), k, 0, 1);
            passes(again(10, "6"), k, 1, 2);
            passes(again(10, "9"), k, 1, 4);
        }
    }

    // ---- promise 12

    private static void noCountOfQuiet() {
        Due.by("12: the k-th (0 .. 10), the first n (0 .. 10)");
        CradleVeto x = again(10, "0");
        for (int count : NO_COUNT) {
            Due.is("quiet(0, " + count + ", 0)", x.quiet(0, count, 0, 0), Due.NONE);
            Due.is("quiet(0, 10, " + count + ")", x.quiet(0, 10, count, 0), Due.NONE);
            Due.is("quiet(0, " + count + ", " + count + ")", x.quiet(0, count, count, 0), Due.NONE);
        }
        quiet(x, 10, 10, 1, 1);
        quiet(x, 0, 0, 1, 1);
    }

    private static void quietOfNone() {
        Due.by("12: of no READINGS none cries: 1 by 1");
        CradleVeto x = again(10, "12");
        for (int k = 0; k <= 10; k++) quiet(x, 0, k, 1, 1);
    }

    private static void quietFromBehindTheEnd() {
        Due.by("12: at none from the k-th on");
        CradleVeto x = again(4, "12");
        for (int n = 0; n <= 4; n++) {
            for (int k = 0; k <= 10; k++) quiet(x, n, k, k < n ? 0 : 1, 1);
        }
    }

    private static void quietOfMoreThanThereAre() {
        Due.by("12: all, if there are not as many");
        CradleVeto x = again(3, "3");
        for (int n = 3; n <= 10; n++) {
            quiet(x, n, 0, 27, 64);
            quiet(x, n, 2, 3, 4);
            quiet(x, n, 3, 1, 1);
        }
        quiet(x, 2, 0, 9, 16);
        quiet(x, 1, 0, 3, 4);
    }

    private static void quietAsCriesAhead() {
        Due.by("12: all: k 0; what cries ahead of the k-th does not count");
        CradleVeto x = again(2, "f>1?6;0");
        x.mend(0, 8, 50);
        quiet(x, 1, 0, 1, 2);
        // It cries at the first by halves: then the second is quiet; else it is so by halves.
        quiet(x, 2, 0, 1, 4);
        quiet(x, 2, 1, 3, 4);
        quiet(x, 2, 2, 1, 1);
    }

    private static void quietOfTen() {
        Due.by("12: of ten: as whole fractions");
        CradleVeto x = again(10, "1");
        quiet(x, 10, 0, ELEVEN_TO_TEN, TWELVE_TO_TEN);
        quiet(x, 10, 9, 11, 12);
        Senates.law(x, "11");
        quiet(x, 10, 0, 1, TWELVE_TO_TEN);
    }

    private static void quietBehindLongerOnes() {
        Due.by("12: of the first n, whatever was asked ahead");
        CradleVeto x = again(10, "3");
        long four = 1 << 20;
        quiet(x, 10, 0, 59049, four);
        for (int n = 9; n >= 0; n--) {
            long above = 1;
            long below = 1;
            for (int i = 0; i < n; i++) {
                above *= 3;
                below *= 4;
            }
            quiet(x, n, 0, above, below);
            passes(x, 9, 3, 4);
            quiet(x, n, n, 1, 1);
        }
    }

    // ---- promise 13

    private static void noCountOfMean() {
        Due.by("13: the first n (likewise: 0 .. 10)");
        CradleVeto x = again(10, "0");
        for (int n : NO_COUNT) Due.is("mean(0, " + n + ")", x.mean(0, n, 0), Due.NONE);
        mean(x, 10, 100, 1);
    }

    private static void meanOfNone() {
        Due.by("13: of no READINGS the mean is 0 by 1");
        mean(again(10, "0"), 0, 0, 1);
        mean(again(10, "5"), 0, 0, 1);
    }

    private static void meanOfMoreThanThereAre() {
        Due.by("13: likewise: all, if there are not as many");
        CradleVeto x = again(3, "4");
        for (int n = 0; n <= 10; n++) {
            int read = Math.min(3, n);
            mean(x, n, read == 3 ? 20 : 20 * read, read == 0 || read == 3 ? 1 : 3);
        }
    }

    private static void meanLeastAndMost() {
        Due.by("13: WORTH in the mean: WORTH 0, 99; never, surely");
        CradleVeto x = again(10, "0");
        x.mend(0, 3, 99);
        mean(x, 10, 990, 1);
        mean(x, 1, 99, 1);
        Senates.law(x, "1");
        mean(x, 10, 1815, 2);
        Senates.law(x, "12");
        mean(x, 10, 0, 1);
        Senates.law(x, "1");
        x.mend(0, 3, 0);
        mean(x, 10, 0, 1);
        x.mend(0, 3, 1);
        mean(x, 1, 11, 12);
    }

    private static void meanOfABillAgain() {
        Due.by("13: a BILL may be read again: each READING that PASSES counts");
        CradleVeto x = Senates.plain(2, 1);
        Senates.law(x, "0");
        x.mend(1, 3, 7);
        Senates.bytes(x, 0, 1, 0, 0, 0, 1, 0, 1, 0);
        mean(x, 4, 31, 1);
        mean(x, 3, 24, 1);
    }

    private static void sinceStaysInAgendas() {
        Due.by("11, 12, 13: 95 stays");
        CradleVeto x = new CradleVeto();
        x.bill(90);
        x.senator(0, 0);
        x.row(0, 0, 6);
        Senates.law(x, "f>95?12;f>94?6;0");
        x.mend(0, 8, 80);
        passes(x, 0, 1, 1);
        passes(x, 1, 1, 2);
        passes(x, 2, 3, 4);
        quiet(x, 3, 0, 1, 4);
        mean(x, 3, 45, 2);
        Due.is("nothing is read", x.of(0, 8), 80);
    }

    // ---- promises 14 and 15

    private static void orderRefused() {
        Due.by("14: BAD (unknown ones, too)");
        CradleVeto x = Senates.plain(3, 2);
        for (int bills : new int[] {-1, 8, 9, 15, 16, 512, 1024, 1 << 30, FAR, FAR_BELOW, FAR_BELOW + 1}) {
            Due.is("order(" + bills + ", 0, 0)", x.order(bills, 0, 0), Due.BAD);
        }
        for (int senator : new int[] {-1, 2, 6, FAR, FAR_BELOW}) {
            Due.is("order(1, " + senator + ", 0)", x.order(1, senator, 0), Due.BAD);
            Due.is("order(0, " + senator + ", 0)", x.order(0, senator, 0), Due.BAD);
            Due.is("BAD ahead of NOT", x.order(1, senator, 5), Due.BAD);
        }
        for (int k : new int[] {-1, FAR_BELOW}) Due.is("order(1, 0, " + k + ")", x.order(1, 0, k), Due.BAD);
        Due.is("order(7, 1, 0)", x.order(7, 1, 0), 0);
    }

    private static void orderOfNone() {
        Due.by("14: ORDER of no BILLS: NOT");
        CradleVeto x = Senates.plain(0, 1);
        Due.is("order(0, 0, 0)", x.order(0, 0, 0), Due.NOT);
        Due.is("without senators", new CradleVeto().order(0, 0, 0), Due.BAD);
    }

    private static void orderOfFive() {
        Due.by("14: 5 at most");
        CradleVeto x = Senates.plain(10, 1);
        Senates.law(x, "0");
        int bills = 1 << 9 | 1 << 7 | 1 << 5 | 1 << 2 | 1;
        int[] due = {0, 2, 5, 7, 9};
        for (int k = 0; k < 5; k++) Due.is("order of five, " + k, x.order(bills, 0, k), due[k]);
        Due.is("no sixth", x.order(bills, 0, 5), Due.NOT);
        fraction("orderWorth of five", x.orderWorth(bills, 0, 0), x.orderWorth(bills, 0, 1), 50, 1);
    }

    private static void orderOfMoreThanFive() {
        Due.by("14: BAD (more than 5)");
        CradleVeto x = Senates.plain(10, 1);
        for (int bills : new int[] {63, 1023, 1008, 0b1010101011, 0b1111101}) {
            Due.is("order(" + bills + ")", x.order(bills, 0, 0), Due.BAD);
            Due.is("orderWorth(" + bills + ")", x.orderWorth(bills, 0, 0), Due.NONE);
        }
    }

    private static void orderBehindTheLast() {
        Due.by("14: NOT: there are not as many");
        CradleVeto x = Senates.plain(5, 1);
        for (int count = 1; count <= 5; count++) {
            int bills = (1 << count) - 1;
            Due.is("the last", x.order(bills, 0, count - 1), count - 1);
            for (int k : new int[] {count, 6, FAR}) Due.is("order(" + bills + ", 0, " + k + ")", x.order(bills, 0, k), Due.NOT);
        }
    }

    private static void orderOfLikeOnes() {
        Due.by("14: of like ones the first by numbers");
        CradleVeto x = Senates.plain(4, 1);
        Senates.law(x, "s=9?12;0");
        x.mend(0, 1, 9);
        for (int k = 0; k < 4; k++) Due.is("any order is like", x.order(15, 0, k), k);
        // Bill 2 is nine quarters long: ahead of the others it passes, behind them it cries.
        x.mend(2, 0, 9);
        x.mend(2, 3, 11);
        Senates.law(x, "f>9?12;0");
        int best = bestOrder(new int[] {1, 1, 9, 1}, new int[] {10, 10, 11, 10});
        Due.is("the first by numbers", x.order(15, 0, 0), best >> 6 & 3);
        Due.is("then", x.order(15, 0, 1), best >> 4 & 3);
        Due.is("then", x.order(15, 0, 2), best >> 2 & 3);
        Due.is("the last", x.order(15, 0, 3), best & 3);
        fraction("orderWorth", x.orderWorth(15, 0, 0), x.orderWorth(15, 0, 1), best >> 8, 1);
    }

    /** Of four bills: the worth by 256, and two bits a bill of the order, the first one above; it cries above nine quarters. */
    private static int bestOrder(int[] lengths, int[] worths) {
        int best = -1;
        for (int order = 0; order < 256; order++) {
            int worth = sureWorth(order, lengths, worths);
            if (best < 0 || worth > best >> 8) best = worth < 0 ? best : worth << 8 | order;
        }
        return best;
    }

    /** -1 if a bill is there twice. */
    private static int sureWorth(int order, int[] lengths, int[] worths) {
        int since = 0;
        int worth = 0;
        int seen = 0;
        for (int k = 0; k < 4; k++) {
            int bill = order >> 2 * (3 - k) & 3;
            if ((seen >> bill & 1) == 1) return -1;
            seen |= 1 << bill;
            since += lengths[bill];
            if (since > 9) since = 0;
            else worth += worths[bill];
        }
        return worth;
    }

    private static void orderFirstAndLastOfAll() {
        Due.by("14: each once: of all orders of five the first one, and the last one");
        for (int last = 0; last < 2; last++) {
            CradleVeto x = Senates.plain(5, 1);
            // Lengths 1 to 5 pass one behind the other in this order alone.
            for (int b = 0; b < 5; b++) x.mend(b, 0, last == 0 ? 1 + b : 5 - b);
            Senates.law(x, "(f=1)|(f=3)|(f=6)|(f=10)|(f=15)?0;12");
            for (int k = 0; k < 5; k++) Due.is("order(31, 0, " + k + ")", x.order(31, 0, k), last == 0 ? k : 4 - k);
            fraction("orderWorth(31, 0)", x.orderWorth(31, 0, 0), x.orderWorth(31, 0, 1), 50, 1);
        }
    }

    private static void orderWorthRefused() {
        Due.by("15: Long.MIN_VALUE: BAD");
        CradleVeto x = Senates.plain(3, 2);
        for (int bills : new int[] {-1, 8, 1024, FAR, FAR_BELOW}) Due.is("orderWorth(" + bills + ")", x.orderWorth(bills, 0, 0), Due.NONE);
        for (int senator : new int[] {-1, 2, FAR, FAR_BELOW}) Due.is("by " + senator, x.orderWorth(1, senator, 0), Due.NONE);
        for (int part : NO_PART) Due.is("part " + part, x.orderWorth(1, 0, part), Due.NONE);
        Due.is("without senators", new CradleVeto().orderWorth(0, 0, 0), Due.NONE);
    }

    private static void orderWorthOfNone() {
        Due.by("15: ORDER of no BILLS: 0 by 1");
        CradleVeto x = Senates.plain(2, 1);
        fraction("orderWorth(0, 0)", x.orderWorth(0, 0, 0), x.orderWorth(0, 0, 1), 0, 1);
    }

    private static void orderWorthLeastAndMost() {
        Due.by("15: WORTH in the mean: never, surely, of WORTH 0");
        CradleVeto x = Senates.plain(5, 1);
        for (int b = 0; b < 5; b++) x.mend(b, 3, 99);
        Senates.law(x, "12");
        fraction("never", x.orderWorth(31, 0, 0), x.orderWorth(31, 0, 1), 0, 1);
        for (int k = 0; k < 5; k++) Due.is("an order all the same", x.order(31, 0, k), k);
        Senates.law(x, "0");
        fraction("surely", x.orderWorth(31, 0, 0), x.orderWorth(31, 0, 1), 495, 1);
        for (int b = 0; b < 5; b++) x.mend(b, 3, 0);
        Senates.law(x, "5");
        fraction("of worth 0", x.orderWorth(31, 0, 0), x.orderWorth(31, 0, 1), 0, 1);
        for (int k = 0; k < 5; k++) Due.is("an order all the same", x.order(31, 0, k), k);
    }

    // ---- promise 16

    private static void packRefused() {
        Due.by("16: BAD: q (0 .. 60), what 0, 1");
        CradleVeto x = Senates.plain(1, 0);
        for (int q : new int[] {-1, 61, 96, FAR, FAR_BELOW}) {
            Due.is("pack(" + q + ", 0)", x.pack(q, 0), Due.BAD);
            Due.is("pack(" + q + ", 1)", x.pack(q, 1), Due.BAD);
        }
        for (int what : NO_PART) Due.is("pack(10, " + what + ")", x.pack(10, what), Due.BAD);
    }

    private static void packOfNone() {
        Due.by("16: of none: WORTH 0, no bits");
        CradleVeto x = new CradleVeto();
        for (int q : new int[] {0, 1, 60}) {
            Due.is("pack(" + q + ", 0)", x.pack(q, 0), 0);
            Due.is("pack(" + q + ", 1)", x.pack(q, 1), 0);
        }
        x.bill(10);
        Due.is("pack(0, 0)", x.pack(0, 0), 0);
        Due.is("pack(0, 1)", x.pack(0, 1), 0);
    }

    private static void packJustFits() {
        Due.by("16: LENGTHS together no more than q");
        CradleVeto x = new CradleVeto();
        for (int length : new int[] {4, 3, 2}) x.bill(10 * length);
        int[] which = {0, 0, 4, 2, 1, 6, 5, 3, 3, 7, 7};
        int[] worth = {0, 0, 10, 10, 10, 20, 20, 20, 20, 30, 30};
        for (int q = 0; q < which.length; q++) {
            Due.is("pack(" + q + ", 0)", x.pack(q, 0), worth[q]);
            Due.is("pack(" + q + ", 1)", x.pack(q, 1), which[q]);
        }
    }

    private static void packOfLikeOnes() {
        Due.by("16: of like ones fewest, then the least");
        CradleVeto x = Senates.plain(5, 0);
        int[] worth = {5, 5, 10, 10, 0};
        for (int b = 0; b < 5; b++) x.mend(b, 3, worth[b]);
        Due.is("one of ten", x.pack(1, 1), 4);
        Due.is("two of ten", x.pack(2, 1), 12);
        Due.is("the least of the fives", x.pack(3, 1), 13);
        Due.is("none of worth 0", x.pack(60, 1), 15);
        x.mend(0, 0, 2);
        x.mend(2, 3, 15);
        x.mend(3, 3, 20);
        // 35 for two quarters; of 20 for one quarter: one bill rather than 15 and 5.
        Due.is("fewest ahead of the least", x.pack(1, 1), 8);
        Due.is("two", x.pack(2, 1), 12);
    }

    private static void packOfAll() {
        Due.by("16: q 60 of BILLS that are longer together, and of ones that are not");
        CradleVeto x = new CradleVeto();
        for (int b = 0; b < 10; b++) x.bill(90);
        Due.is("six of ten fit", x.pack(60, 1), 63);
        Due.is("their worth", x.pack(60, 0), 60);
        for (int b = 0; b < 10; b++) x.mend(b, 0, 6);
        for (int b = 0; b < 10; b++) x.mend(b, 3, 99);
        Due.is("all ten fit", x.pack(60, 1), 1023);
        Due.is("their worth", x.pack(60, 0), 990);
        Due.is("nine of ten", x.pack(59, 1), 511);
        Due.is("their worth", x.pack(59, 0), 891);
    }
}
