import java.util.Random;

/** Promises 20 and 21: who decides how often, and which parties together. */
public final class PowerTest {
    public static void main(String[] args) {
        powerByAllOrders();
        refusedPower();
        leagues();
        leaguesByAllSets();
        Due.end();
    }

    private static long gcd(long a, long b) {
        return b == 0 ? a : gcd(b, a % b);
    }

    private static long[] decides;

    private static void tryAll(int n, boolean[] said, int senatorsSaid, int count) {
        if (count == n + 1) return;
        for (int one = 0; one <= n; one++) {
            if (said[one]) continue;
            said[one] = true;
            int senators = senatorsSaid + (one < n ? 1 : 0);
            if (said[n] && 2 * senators > n) {
                long orders = 1;
                for (int i = 2; i <= n - count; i++) orders *= i;
                decides[one] += orders;
            } else {
                tryAll(n, said, senators, count + 1);
            }
            said[one] = false;
        }
    }

    private static void powerByAllOrders() {
        CradleVeto x = new CradleVeto();
        for (int n = 0; n <= 6; n++) {
            decides = new long[n + 1];
            tryAll(n, new boolean[n + 1], 0, 0);
            long all = 1;
            for (int i = 2; i <= n + 1; i++) all *= i;
            for (int one = 0; one <= n; one++) {
                long common = gcd(decides[one], all);
                Due.is("power of " + one + " of " + n, x.power(one, 0), decides[one] / common);
                Due.is("below", x.power(one, 1), all / common);
            }
            Due.is("no such", x.power(n + 1, 0), Due.NONE);
            x.senator(n, n % 3);
        }
    }

    private static void refusedPower() {
        CradleVeto x = new CradleVeto();
        Due.is("without senators never", x.power(0, 0), 0);
        Due.is("by 1", x.power(0, 1), 1);
        Due.is("-1", x.power(-1, 0), Due.NONE);
        Due.is("1", x.power(1, 0), Due.NONE);
        Due.is("part 2", x.power(0, 2), Due.NONE);
        Due.is("part -1", x.power(0, -1), Due.NONE);
        Due.is("far", x.power(Integer.MAX_VALUE, 0), Due.NONE);
        Due.is("far below", x.power(Integer.MIN_VALUE, 0), Due.NONE);
    }

    private static void leagues() {
        CradleVeto x = new CradleVeto();
        Due.is("none", x.leagues(0), 0);
        Due.is("no least", x.leagues(1), Due.NOT);
        Due.is("what 2", x.leagues(2), Due.BAD);
        Due.is("what -1", x.leagues(-1), Due.BAD);
        x.senator(0, 2);
        Due.is("one alone", x.leagues(0), 1);
        Due.is("that party", x.leagues(1), 4);
        x.senator(0, 0);
        Due.is("half is not more", x.leagues(0), 1);
        Due.is("both", x.leagues(1), 5);
        x.senator(0, 1);
        Due.is("any two, and all", x.leagues(0), 4);
        Due.is("of like ones the least", x.leagues(1), 3);
        x.mend(1, 5, 2);
        Due.is("a party of most", x.leagues(0), 2);
        Due.is("fewest senators", x.leagues(1), 4);
    }

    private static void leaguesByAllSets() {
        Random random = new Random(29);
        for (int i = 0; i < 200; i++) {
            int n = 1 + random.nextInt(6);
            CradleVeto x = new CradleVeto();
            int[] of = new int[3];
            for (int s = 0; s < n; s++) {
                int party = random.nextInt(3);
                of[party]++;
                x.senator(0, party);
            }
            int found = 0;
            int least = Due.NOT;
            int fewest = 99;
            for (int set = 7; set >= 1; set--) {
                int senators = 0;
                boolean empty = false;
                for (int p = 0; p < 3; p++) {
                    if ((set >> p & 1) == 0) continue;
                    senators += of[p];
                    empty |= of[p] == 0;
                }
                if (empty || senators * 2 <= n) continue;
                found++;
                if (senators <= fewest) {
                    fewest = senators;
                    least = set;
                }
            }
            Due.is("leagues", x.leagues(0), found);
            Due.is("the least", x.leagues(1), least);
        }
    }
}
