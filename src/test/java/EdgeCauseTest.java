import java.util.Arrays;

/** Edges of promises 17 to 23: each sentence that names one has a test of its own. */
public final class EdgeCauseTest {
    private static final int FAR = Integer.MAX_VALUE, FAR_BELOW = Integer.MIN_VALUE, ALL_TEN = 1023;
    private static final int[] NO_PART = {-1, 2, FAR, FAR_BELOW};

    public static void main(String[] args) {
        causesOfNoShelf();
        causesOfNoWhat();
        causesOfNoRowOfBytes();
        causesOfNoThrees();
        threesThatAreNoSuch();
        threesThatLackOne();
        eightThreesAtMost();
        noneCanBe();
        theLikeliestOfLikeOnes();
        theFirstAndTheLastCause();
        sinceBehindACry();
        sinceStaysInCauses();
        causeRefused();
        causeSurely();
        causeInLowestTerms();
        causesOfEightThrees();
        apartRefused();
        apartOfNone();
        apartWhereNoneDiffer();
        apartOfLikeOnes();
        apartLeastAndMost();
        powerRefused();
        powerWithoutSenators();
        powerOfOneToSix();
        leaguesRefused();
        leaguesOfNone();
        leaguesOfHalf();
        leaguesOfPartiesWithoutSenators();
        leaguesOfLikeOnes();
        turnsRefused();
        turnsWithinZeroAndNine();
        turnsOfLikeOnes();
        turnsOneToFive();
        turnsReadTheTold();
        turnsAtNinetyFive();
        turnsWithoutAText();
        yearsRefused();
        yearsOfNoRowOfBytes();
        yearsOneToThirty();
        yearsOfNoReadings();
        birthsNeverOrAlways();
        eachYearFromNow();
        seedsThatWrap();
        yearsOfABill();
        Due.end();
    }

    private static void fraction(String what, long above, long below, long dueAbove, long dueBelow) {
        Due.is(what + ", above the line", above, dueAbove);
        Due.is(what + ", below the line", below, dueBelow);
    }

    private static void cause(CradleVeto x, int what, long above, long below) {
        fraction("cause(0, " + what + ")", x.cause(0, what, 0), x.cause(0, what, 1), above, below);
    }

    /** A bill by a senator, a law, and what was heard, on shelf 0. */
    private static CradleVeto heard(String law, int... threes) {
        CradleVeto x = Senates.plain(1, 1);
        Senates.law(x, law);
        Senates.bytes(x, 0, threes);
        return x;
    }

    // ---- promise 17

    private static void causesOfNoShelf() {
        Due.by("17: BAD: no such shelf");
        CradleVeto x = heard("t");
        for (int shelf : new int[] {-1, 6, FAR, FAR_BELOW}) Due.is("causes(" + shelf + ")", x.causes(shelf, 0), Due.BAD);
    }

    private static void causesOfNoWhat() {
        Due.by("17: BAD: what 0 .. 3");
        CradleVeto x = heard("t");
        for (int what : new int[] {-1, 4, FAR, FAR_BELOW}) {
            Due.is("causes(0, " + what + ")", x.causes(0, what), Due.BAD);
            Due.is("BAD ahead of -11", x.causes(1, what), Due.BAD);
        }
    }

    private static void causesOfNoRowOfBytes() {
        Due.by("17: -11, -12");
        CradleVeto x = heard("t");
        x.body(7);
        x.keep(5, 0);
        for (int sort = 1; sort < 5; sort++) x.row(sort, sort, 3);
        for (int what = 0; what < 4; what++) {
            for (int shelf = 1; shelf < 6; shelf++) Due.is("causes(" + shelf + ")", x.causes(shelf, what), -12);
        }
        x.keep(0, -1);
        for (int what = 0; what < 4; what++) Due.is("nothing there", x.causes(0, what), -11);
    }

    private static void causesOfNoThrees() {
        Due.by("17, 18: no threes: all ten, 1 by 10");
        for (int length = 0; length < 3; length++) {
            CradleVeto x = heard("12", new int[length]);
            Due.is("teeth", x.causes(0, 0), ALL_TEN);
            Due.is("the least of them", x.causes(0, 1), 0);
            Due.is("wind", x.causes(0, 2), ALL_TEN);
            Due.is("the least of them", x.causes(0, 3), 0);
            cause(x, 0, 1, 10);
            cause(x, 1, 1, 10);
        }
        CradleVeto none = new CradleVeto();
        Senates.bytes(none, 0, 0, 0, 1);
        Due.is("without bills", none.causes(0, 0), ALL_TEN);
    }

    private static void threesThatAreNoSuch() {
        Due.by("17: it ends with what is no such");
        int[][] wrong = {{1, 0, 1}, {-1, 0, 1}, {0, 1, 1}, {0, -1, 1}, {0, 0, 2}, {0, 0, -1}, {0, 6, 1}, {10, 0, 1}, {127, 0, 1},
            {0, 0, -128}};
        for (int[] each : wrong) {
            CradleVeto x = heard("t<4?12;t<6?6;0", 0, 0, 1, each[0], each[1], each[2], 0, 0, 0);
            Due.is("by the first alone", x.causes(0, 0), 63);
            cause(x, 0, 1, 5);
            Senates.bytes(x, 0, each[0], each[1], each[2], 0, 0, 0);
            Due.is("by none", x.causes(0, 0), ALL_TEN);
        }
    }

    private static void threesThatLackOne() {
        Due.by("17: by threes: it ends within one, too");
        int[] row = {0, 0, 1, 0, 0, 0};
        int[] due = {ALL_TEN, ALL_TEN, ALL_TEN, 63, 63, 63, 48};
        for (int length = 0; length <= 6; length++) {
            CradleVeto x = heard("t<4?12;t<6?6;0", Arrays.copyOf(row, length));
            Due.is("of " + length, x.causes(0, 0), due[length]);
        }
    }

    private static void eightThreesAtMost() {
        Due.by("17: 8 threes at most");
        for (int last = 0; last < 10; last++) {
            int[] row = new int[30];
            for (int i = 0; i < 10; i++) row[3 * i + 2] = i < last ? 1 : 0;
            CradleVeto x = heard("t=5?12;0", row);
            // Teeth 5 cry each time, others never: a mixed row can be by none.
            Due.is("cries " + last, x.causes(0, 0), last == 0 ? ALL_TEN - 32 : last >= 8 ? 32 : 0);
        }
        int[] sixty = new int[60];
        Due.is("sixty bytes", heard("t=5?12;0", sixty).causes(0, 0), ALL_TEN - 32);
    }

    private static void noneCanBe() {
        Due.by("17, 18: NOT: none can be; 0 by 1: none can be");
        CradleVeto x = heard("12", 0, 0, 0);
        for (int law = 0; law < 2; law++) {
            Due.is("teeth", x.causes(0, 0), 0);
            Due.is("the likeliest", x.causes(0, 1), Due.NOT);
            Due.is("wind", x.causes(0, 2), 0);
            Due.is("the likeliest", x.causes(0, 3), Due.NOT);
            cause(x, 0, 0, 1);
            cause(x, 1, 0, 1);
            x = heard("0", 0, 0, 1);
        }
    }

    private static void theLikeliestOfLikeOnes() {
        Due.by("17: the likeliest (of like ones the least)");
        CradleVeto x = heard("(t-5)*(t-5)-(w-3)*(w-3)+9", 0, 0, 1);
        x.mend(0, 7, 3);
        x.mend(0, 6, 5);
        Due.is("teeth", x.causes(0, 1), 0);
        Due.is("wind", x.causes(0, 3), 3);
        Senates.law(x, "t%4+w%3*2");
        x.mend(0, 6, 0);
        x.mend(0, 7, 0);
        Due.is("teeth", x.causes(0, 1), 3);
        Due.is("wind", x.causes(0, 3), 2);
        Due.is("teeth it can be", x.causes(0, 0), 0b1011101110);
        Due.is("wind it can be", x.causes(0, 2), 0b0110110110);
    }

    private static void theFirstAndTheLastCause() {
        Due.by("17: by some TEETH (0 .. 9), WIND (0 .. 9): bits");
        for (int v = 0; v < 10; v++) {
            CradleVeto x = heard("(t=" + v + ")+(w=" + v + ")*2-(t=w)*3", 0, 0, 1);
            x.mend(0, 6, (v + 1) % 10);
            x.mend(0, 7, (v + 2) % 10);
            Due.is("teeth", x.causes(0, 0), 1 << v);
            Due.is("the likeliest", x.causes(0, 1), v);
            Due.is("wind", x.causes(0, 2), 1 << v);
            Due.is("the likeliest", x.causes(0, 3), v);
        }
    }

    private static void sinceBehindACry() {
        Due.by("17: SINCE is 0 behind a cry, else goes on");
        CradleVeto x = heard("f=1?t;f=2?6;f=51?t=9;11", 0, 0, 1, 0, 0, 1, 0, 0, 0);
        x.mend(0, 8, 50);
        // The first cry is by teeth 9 alone; then f is 1 twice over: 9 of 12, and 3 of 12.
        Due.is("teeth", x.causes(0, 0), 512);
        cause(x, 0, 1, 1);
        CradleVeto y = heard("f=1?0;f=2?t;12", 0, 0, 0, 0, 0, 1);
        Due.is("it goes on", y.causes(0, 0), ALL_TEN - 1);
        Due.is("the likeliest", y.causes(0, 1), 9);
        cause(y, 0, 1, 5);
        Due.is("nothing is heard in deed", y.of(0, 8), 0);
    }

    private static void sinceStaysInCauses() {
        Due.by("17: 95 stays");
        CradleVeto x = heard("f=95?t;f>95?12;3", 0, 0, 0, 0, 0, 0, 0, 0, 1);
        x.mend(0, 8, 95);
        Due.is("teeth", x.causes(0, 0), ALL_TEN - 1);
        // t by 12 - t by 12 - t: most of it at 4.
        Due.is("the likeliest", x.causes(0, 1), 4);
    }

    // ---- promise 18

    private static void causeRefused() {
        Due.by("18: Long.MIN_VALUE: BAD, no ROW of bytes");
        CradleVeto x = heard("t");
        for (int part = 0; part < 2; part++) {
            for (int shelf : new int[] {-1, 6, FAR, FAR_BELOW}) Due.is("cause(" + shelf + ")", x.cause(shelf, 0, part), Due.NONE);
            for (int what : NO_PART) Due.is("cause(0, " + what + ")", x.cause(0, what, part), Due.NONE);
        }
        for (int part : NO_PART) Due.is("cause(0, 0, " + part + ")", x.cause(0, 0, part), Due.NONE);
        x.body(0);
        x.keep(5, 0);
        for (int sort = 1; sort < 5; sort++) x.row(sort, sort, 3);
        for (int shelf = 1; shelf < 6; shelf++) Due.is("cause(" + shelf + ")", x.cause(shelf, 1, 0), Due.NONE);
        x.keep(0, -1);
        Due.is("nothing there", x.cause(0, 0, 0), Due.NONE);
    }

    private static void causeSurely() {
        Due.by("18: how likely that is: 1 by 1, if it can be no other");
        for (int twelfths = 1; twelfths <= 12; twelfths++) {
            CradleVeto x = heard("(t=7)*" + twelfths, 0, 0, 1);
            Due.is("teeth", x.causes(0, 0), 128);
            cause(x, 0, 1, 1);
        }
    }

    private static void causeInLowestTerms() {
        Due.by("18: all ten alike ahead: a fraction in lowest terms");
        cause(heard("t", 0, 0, 1), 0, 1, 5);
        cause(heard("t", 0, 0, 0), 0, 4, 25);
        cause(heard("t=0|t=9", 0, 0, 1), 0, 1, 2);
        cause(heard("t<8?0;t=8?4;6", 0, 0, 1), 0, 3, 5);
    }

    private static void causesOfEightThrees() {
        Due.by("18: 8 threes: as whole fractions");
        int[] row = new int[24];
        cause(heard("0", row), 0, 1, 10);
        long rest = 0;
        for (int t = 0; t < 10; t++) {
            long one = 1;
            for (int i = 0; i < 8; i++) one *= 12 - t;
            rest += one;
        }
        long most = 12L * 12 * 12 * 12 * 12 * 12 * 12 * 12;
        CradleVeto x = heard("t", row);
        long common = gcd(most, rest);
        cause(x, 0, most / common, rest / common);
    }

    private static long gcd(long a, long b) {
        return b == 0 ? a : gcd(b, a % b);
    }

    // ---- promise 19

    private static void apartRefused() {
        Due.by("19: BAD: two TEETH (unlike), what 0, 1");
        CradleVeto x = Senates.plain(1, 1);
        Senates.law(x, "t");
        for (int ab = -100; ab < 0; ab++) Due.is("apart(" + ab + ")", x.apart(ab, 0), Due.BAD);
        for (int ab = 0; ab < 100; ab += 11) Due.is("apart(" + ab + ")", x.apart(ab, 0), Due.BAD);
        for (int ab : new int[] {100, 101, 110, 910, FAR, FAR_BELOW}) Due.is("apart(" + ab + ")", x.apart(ab, 0), Due.BAD);
        for (int what : NO_PART) Due.is("apart(1, " + what + ")", x.apart(1, what), Due.BAD);
        Due.is("BAD ahead of NOT", new CradleVeto().apart(11, 0), Due.BAD);
    }

    private static void apartOfNone() {
        Due.by("19: NOT: there are none");
        CradleVeto[] none = {new CradleVeto(), Senates.plain(3, 0), Senates.plain(0, 3)};
        for (CradleVeto x : none) {
            Due.is("which", x.apart(9, 0), Due.NOT);
            Due.is("by how many", x.apart(9, 1), Due.NOT);
        }
    }

    private static void apartWhereNoneDiffer() {
        Due.by("19: NOT: none differ");
        CradleVeto x = Senates.plain(2, 2);
        Senates.law(x, "w+f");
        Due.is("which", x.apart(9, 0), Due.NOT);
        Due.is("by how many", x.apart(9, 1), Due.NOT);
        Senates.law(x, "12+t");
        Due.is("held at twelve, which", x.apart(9, 0), Due.NOT);
        Senates.law(x, "t-9");
        Due.is("held at 0, which", x.apart(9, 0), Due.NOT);
        Senates.law(x, "t-8");
        Due.is("one does", x.apart(9, 0), 0);
        Due.is("by one", x.apart(9, 1), 1);
    }

    private static void apartOfLikeOnes() {
        Due.by("19: of like ones the least");
        CradleVeto x = new CradleVeto();
        for (int sharp : new int[] {1, 2, 2}) x.bill(10 + sharp);
        for (int rumble : new int[] {1, 3, 3}) x.senator(rumble, 0);
        Senates.law(x, "t*s*r");
        Due.is("which", x.apart(20, 0), 11);
        Due.is("by how many", x.apart(20, 1), 12);
        Senates.law(x, "t");
        Due.is("the very least", x.apart(20, 0), 0);
    }

    private static void apartLeastAndMost() {
        Due.by("19: TEETH 0 .. 9, by 1 .. 12");
        CradleVeto x = Senates.plain(1, 1);
        Senates.law(x, "t*2");
        for (int a = 0; a < 10; a++) {
            for (int b = 0; b < 10; b++) {
                if (a != b) Due.is("apart(" + a + b + ", 1)", x.apart(10 * a + b, 1), a > 5 && b > 5 ? Due.NOT
                        : Math.abs(Math.min(12, 2 * a) - Math.min(12, 2 * b)));
            }
        }
        x.mend(0, 6, 4);
        Due.is("teeth it has do not count", x.apart(10, 1), 2);
    }

    // ---- promises 20 and 21

    private static void powerRefused() {
        Due.by("20: Long.MIN_VALUE: BAD");
        for (int senators = 0; senators <= 6; senators++) {
            CradleVeto x = Senates.plain(0, senators);
            for (int one : new int[] {-1, senators + 1, 7, FAR, FAR_BELOW}) {
                Due.is("power(" + one + ")", x.power(one, 0), Due.NONE);
                Due.is("power(" + one + ")", x.power(one, 1), Due.NONE);
            }
            for (int part : NO_PART) Due.is("part " + part, x.power(0, part), Due.NONE);
        }
    }

    private static void powerWithoutSenators() {
        Due.by("20: without SENATORS never");
        CradleVeto x = Senates.plain(4, 0);
        fraction("power(0)", x.power(0, 0), x.power(0, 1), 0, 1);
    }

    private static void powerOfOneToSix() {
        Due.by("20: more than half of SENATORS and the INFANT: how likely each is the one");
        int[][] senator = {{1, 2}, {1, 3}, {1, 6}, {3, 20}, {1, 10}, {2, 21}};
        int[][] infant = {{1, 2}, {1, 3}, {1, 2}, {2, 5}, {1, 2}, {3, 7}};
        for (int all = 1; all <= 6; all++) {
            CradleVeto x = Senates.plain(0, all);
            for (int one = 0; one < all; one++) {
                fraction("power(" + one + ") of " + all, x.power(one, 0), x.power(one, 1), senator[all - 1][0], senator[all - 1][1]);
            }
            fraction("the infant of " + all, x.power(all, 0), x.power(all, 1), infant[all - 1][0], infant[all - 1][1]);
        }
    }

    private static void leaguesRefused() {
        Due.by("21: BAD: what 0, 1");
        CradleVeto x = Senates.plain(0, 1);
        for (int what : NO_PART) Due.is("leagues(" + what + ")", x.leagues(what), Due.BAD);
    }

    private static void leaguesOfNone() {
        Due.by("21: sets of one at least: without SENATORS there is none; NOT");
        CradleVeto x = new CradleVeto();
        Due.is("how many", x.leagues(0), 0);
        Due.is("the least", x.leagues(1), Due.NOT);
    }

    private static CradleVeto ofParties(int... parties) {
        CradleVeto x = new CradleVeto();
        for (int party : parties) x.senator(0, party);
        return x;
    }

    private static void leagues(CradleVeto x, int many, int least) {
        Due.is("how many", x.leagues(0), many);
        Due.is("the least", x.leagues(1), least);
    }

    private static void leaguesOfHalf() {
        Due.by("21: more than half of all SENATORS: half is not");
        leagues(ofParties(0, 1), 1, 3);
        leagues(ofParties(0, 0, 1, 1), 1, 3);
        leagues(ofParties(2, 2, 2, 1, 1, 0), 3, 5);
        leagues(ofParties(0, 0, 0, 1, 1, 2), 3, 5);
        leagues(ofParties(0, 0, 1), 2, 1);
    }

    private static void leaguesOfPartiesWithoutSenators() {
        Due.by("21: PARTIES (of 0, 1, 2 that have SENATORS)");
        leagues(ofParties(0), 1, 1);
        leagues(ofParties(1), 1, 2);
        leagues(ofParties(2, 2, 2, 2, 2, 2), 1, 4);
        leagues(ofParties(1, 2), 1, 6);
        leagues(ofParties(1, 1, 2), 2, 2);
    }

    private static void leaguesOfLikeOnes() {
        Due.by("21: the least such set in SENATORS (of like ones the least)");
        leagues(ofParties(0, 1, 2), 4, 3);
        leagues(ofParties(0, 0, 1, 1, 2, 2), 4, 3);
        leagues(ofParties(0, 0, 1, 2, 2), 4, 3);
        leagues(ofParties(0, 1, 1, 2, 2), 4, 3);
        leagues(ofParties(0, 0, 0, 1, 1, 2, 2), 3, 5);
    }

    // ---- promise 22

    private static void turnsRefused() {
        Due.by("22: BAD: a told BILL, a told SENATOR, n (1 .. 5), what 0, 1");
        CradleVeto x = Senates.plain(2, 2);
        for (int bs : new int[] {-1, 2, 9, 12, 20, 100, FAR, FAR_BELOW}) Due.is("byTurns(" + bs + ")", x.byTurns(bs, 1, 0), Due.BAD);
        for (int n : new int[] {0, -1, 6, FAR, FAR_BELOW}) Due.is("n " + n, x.byTurns(0, n, 0), Due.BAD);
        for (int what : NO_PART) Due.is("what " + what, x.byTurns(0, 1, what), Due.BAD);
        Due.is("without any", new CradleVeto().byTurns(0, 1, 0), Due.BAD);
        Due.is("byTurns(11, 5, 0)", x.byTurns(11, 5, 0), 0);
    }

    private static CradleVeto windy(int wind, String law) {
        CradleVeto x = Senates.plain(1, 1);
        x.mend(0, 7, wind);
        Senates.law(x, law);
        return x;
    }

    private static void turnsWithinZeroAndNine() {
        Due.by("22: 2 more, 2 less (within 0 .. 9)");
        for (int wind = 0; wind < 10; wind++) {
            Due.is("fewest by less, from " + wind, windy(wind, "w").byTurns(0, 1, 0), Math.max(0, wind - 2));
            Due.is("fewest by more, from " + wind, windy(wind, "9-w").byTurns(0, 1, 0), Math.max(0, 7 - wind));
            Due.is("less, from " + wind, windy(wind, "w").byTurns(0, 1, 1), wind == 0 ? 2 : 1);
            Due.is("more, from " + wind, windy(wind, "9-w").byTurns(0, 1, 1), wind == 9 ? 2 : 0);
        }
    }

    private static void turnsOfLikeOnes() {
        Due.by("22: 0 more, 1 less, 2 lets it be; of like ones 2 first, then the least");
        Due.is("all alike", windy(5, "4").byTurns(0, 1, 1), 2);
        Due.is("more and less alike", windy(5, "w=5").byTurns(0, 1, 1), 0);
        Due.is("less and letting be alike", windy(5, "w=7").byTurns(0, 1, 1), 2);
        Due.is("more and letting be alike", windy(5, "w=3").byTurns(0, 1, 1), 2);
        Due.is("less alone", windy(5, "w>3").byTurns(0, 1, 1), 1);
        Due.is("more alone", windy(5, "w<7").byTurns(0, 1, 1), 0);
        Due.is("held at 0: less is like letting be", windy(0, "w").byTurns(0, 1, 1), 2);
        Due.is("held at 9: more is like letting be", windy(9, "9-w").byTurns(0, 1, 1), 2);
    }

    private static void turnsOneToFive() {
        Due.by("22: n (1 .. 5) times in all, the first one first");
        int[] due = {3, 5, 3, 5, 3};
        for (int n = 1; n <= 5; n++) {
            CradleVeto x = windy(5, "w");
            Due.is("n " + n, x.byTurns(0, n, 0), due[n - 1]);
            Due.is("the first one's first", x.byTurns(0, n, 1), 1);
            Due.is("nothing is done", x.of(0, 7), 5);
        }
        CradleVeto far = windy(9, "w=9?9;w=0?0;5");
        Due.is("n 1", far.byTurns(0, 1, 0), 5);
        Due.is("n 2", far.byTurns(0, 2, 0), 9);
    }

    private static void turnsReadTheTold() {
        Due.by("22: behind them a told BILL is read by a told SENATOR (others as they are)");
        CradleVeto x = new CradleVeto();
        x.bill(12);
        x.bill(47);
        x.mend(1, 2, 3);
        x.senator(1, 0);
        x.senator(6, 1);
        x.mend(0, 6, 5);
        x.mend(0, 7, 9);
        x.mend(0, 8, 4);
        String[] names = {"f", "t", "r", "s", "m"};
        int[][] due = {{5, 5, 1, 2, 0}, {5, 5, 6, 2, 0}, {8, 5, 1, 7, 3}, {8, 5, 6, 7, 3}};
        for (int i = 0; i < names.length; i++) {
            Senates.law(x, names[i]);
            for (int reading = 0; reading < 4; reading++) {
                int bs = 10 * (reading / 2) + reading % 2;
                Due.is(names[i] + " at " + bs, x.byTurns(bs, 1 + i, 0), due[reading][i]);
                Due.is(names[i] + " at " + bs + ", first", x.byTurns(bs, 1 + i, 1), 2);
            }
        }
        Senates.law(x, "w-t+m");
        Due.is("WIND with others, one turn", x.byTurns(11, 1, 0), 5);
        Due.is("WIND with others, two turns", x.byTurns(11, 2, 0), 7);
        Due.is("TEETH, WIND, SINCE are as they were", 100 * x.of(0, 6) + 10 * x.of(0, 7) + x.of(0, 8), 594);
    }

    private static void turnsAtNinetyFive() {
        Due.by("22: SINCE is more by LENGTH, 95 stays");
        CradleVeto x = new CradleVeto();
        x.bill(90);
        x.senator(0, 0);
        Senates.law(x, "f-85");
        int[] since = {76, 77, 85, 86, 87, 95};
        int[] due = {0, 1, 9, 10, 10, 10};
        for (int i = 0; i < since.length; i++) {
            x.mend(0, 8, since[i]);
            for (int n = 1; n <= 5; n++) Due.is("SINCE " + since[i] + ", n " + n, x.byTurns(0, n, 0), due[i]);
        }
    }

    private static void turnsWithoutAText() {
        Due.by("22: without a text: f by 4, t by 3, w by 3, r by 3, s by 3, together, less 2");
        CradleVeto x = new CradleVeto();
        x.bill(49);
        x.senator(7, 0);
        x.mend(0, 6, 8);
        x.mend(0, 7, 5);
        x.mend(0, 8, 1);
        Due.is("one turn: WIND 3", x.byTurns(0, 1, 0), 1 + 2 + 1 + 2 + 3 - 2);
        Due.is("less, or letting be: letting be", x.byTurns(0, 1, 1), 2);
        Due.is("two turns: WIND 3, then 5", x.byTurns(0, 2, 0), 1 + 2 + 1 + 2 + 3 - 2);
        Due.is("less alone", x.byTurns(0, 2, 1), 1);
    }

    // ---- promise 23

    private static void yearsRefused() {
        Due.by("23: BAD: no such shelf, n (1 .. 30), BIRTHS (0 .. 12), a BILL, or -1");
        CradleVeto x = heard("0", 0, 0);
        for (int shelf : new int[] {-1, 6, FAR, FAR_BELOW}) Due.is("drawn(1, " + shelf + ")", x.drawn(1, shelf, 100, -1), Due.BAD);
        for (int nb : new int[] {-1, 0, 12, 99, -100, -88, 113, 199, 2913, 3013, 3100, 3112, FAR, FAR_BELOW}) {
            Due.is("nb " + nb, x.drawn(1, 0, nb, -1), Due.BAD);
        }
        for (int bill : new int[] {-2, 1, 10, FAR, FAR_BELOW}) Due.is("bill " + bill, x.drawn(1, 0, 100, bill), Due.BAD);
        for (int shelf = 1; shelf < 3; shelf++) {
            x.row(2, 1, 2);
            Due.is("BAD ahead of -11, -12", x.drawn(1, shelf, 99, -1), Due.BAD);
            Due.is("BAD ahead of -11, -12", x.drawn(1, shelf, 100, 1), Due.BAD);
        }
    }

    private static void yearsOfNoRowOfBytes() {
        Due.by("23: -11, -12");
        CradleVeto x = heard("0", 0, 0);
        x.body(7);
        x.keep(5, 0);
        for (int sort = 1; sort < 5; sort++) x.row(sort, sort, 3);
        for (int shelf = 1; shelf < 6; shelf++) Due.is("drawn(1, " + shelf + ")", x.drawn(1, shelf, 100, -1), -12);
        x.keep(0, -1);
        Due.is("nothing there", x.drawn(1, 0, 100, 0), -11);
    }

    private static void yearsOneToThirty() {
        Due.by("23: n years (1 .. 30)");
        CradleVeto x = heard("0", new int[20]);
        x.mend(0, 3, 99);
        for (int n = 1; n <= 30; n++) {
            Due.is("worth of " + n, x.drawn(5, 0, 100 * n + n % 13, -1), 990 * n);
            Due.is("passed in " + n, x.drawn(5, 0, 100 * n + n % 13, 0), 10 * n);
        }
    }

    private static void yearsOfNoReadings() {
        Due.by("23: AN AGENDA of no READINGS: nothing passes");
        CradleVeto x = heard("0");
        Due.is("worth", x.drawn(1, 0, 3012, -1), 0);
        Due.is("how often", x.drawn(1, 0, 3012, 0), 0);
        CradleVeto none = new CradleVeto();
        none.row(0, 0, 2);
        Due.is("without bills", none.drawn(1, 0, 100, -1), 0);
        Due.is("without that bill", none.drawn(1, 0, 100, 0), Due.BAD);
    }

    private static void birthsNeverOrAlways() {
        Due.by("23: below BIRTHS (0 .. 12): 0 never, 12 always: TEETH 0, SINCE 0");
        CradleVeto x = heard("t>0|f>1?12;0", new int[10]);
        x.mend(0, 6, 1);
        for (int seed : new int[] {0, 1, -1, 77, FAR, FAR_BELOW}) {
            Due.is("never", x.drawn(seed, 0, 1000, 0), 0);
            Due.is("always", x.drawn(seed, 0, 1012, 0), 50);
        }
        Senates.law(x, "w>3?12;0");
        x.mend(0, 7, 9);
        Due.is("wind as it is", x.drawn(3, 0, 1000, 0), 0);
        Due.is("wind 3 at most", x.drawn(3, 0, 1012, 0), 50);
    }

    private static void eachYearFromNow() {
        Due.by("23: each year from now");
        CradleVeto x = heard("f>9?12;0", 0, 0, 0, 0);
        x.mend(0, 8, 40);
        // The first of a year cries, and feeds; the second passes.
        for (int n = 1; n <= 30; n++) Due.is("years " + n, x.drawn(n, 0, 100 * n, 0), n);
        Due.is("since", x.of(0, 8), 40);
        Due.is("seed", x.of(0, 9), 1);
        Due.is("no readings in deed", x.led(0), 0);
    }

    private static void seedsThatWrap() {
        Due.by("23: z = z * 1103515245 + 12345 (an int): by any SEED");
        CradleVeto x = heard("6", 0, 0, 0, 0, 0, 0);
        for (int seed : new int[] {0, 1, -1, FAR, FAR_BELOW, 123456789, -987654321, Due.VOID}) {
            int z = seed;
            int passed = 0;
            for (int i = 0; i < 12; i++) {
                z = z * 1103515245 + 12345;
                if ((z >>> 8) % 12 >= 6) passed++;
            }
            Due.is("seed " + seed, x.drawn(seed, 0, 400, 0), passed);
        }
    }

    private static void yearsOfABill() {
        Due.by("23: WORTH (bill -1), how often a BILL");
        CradleVeto x = Senates.plain(3, 1);
        Senates.law(x, "0");
        x.mend(0, 3, 1);
        x.mend(1, 3, 20);
        Senates.bytes(x, 0, 1, 0, 0, 0, 1, 0);
        Due.is("worth", x.drawn(9, 0, 200, -1), 82);
        Due.is("bill 0", x.drawn(9, 0, 200, 0), 2);
        Due.is("bill 1, read again", x.drawn(9, 0, 200, 1), 4);
        Due.is("bill 2, not read", x.drawn(9, 0, 200, 2), 0);
        Due.is("bill 3, none", x.drawn(9, 0, 200, 3), Due.BAD);
    }
}
