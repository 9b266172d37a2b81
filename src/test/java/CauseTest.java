import java.util.Random;

/** Promises 17 to 19 and 22: why it cried, what tells two teeth apart, nurses by turns. */
public final class CauseTest {
    public static void main(String[] args) {
        causesByAllWays();
        threesThatEnd();
        refusedCauses();
        apart();
        apartByAllWays();
        turns();
        turnsByAllWays();
        Due.end();
    }

    private static long gcd(long a, long b) {
        return b == 0 ? a : gcd(b, a % b);
    }

    private static void causesByAllWays() {
        Random random = new Random(17);
        for (int i = 0; i < 120; i++) {
            int bills = 1 + random.nextInt(10);
            int senators = 1 + random.nextInt(6);
            CradleVeto x = Senates.some(random, bills, senators);
            int size = random.nextInt(10);
            int[] row = new int[3 * size];
            for (int j = 0; j < size; j++) {
                row[3 * j] = random.nextInt(bills);
                row[3 * j + 1] = random.nextInt(senators);
                row[3 * j + 2] = random.nextInt(2);
            }
            Senates.bytes(x, 4, row);
            Told told = new Told(x);
            for (int k = 0; k < 2; k++) {
                int what = i % 2 == 0 ? k : 1 - k;
                long all = 0;
                long most = 0;
                int likeliest = Due.NOT;
                int set = 0;
                for (int v = 0; v < 10; v++) {
                    long weight = weight(told, row, what == 0 ? v : told.teeth, what == 1 ? v : told.wind);
                    all += weight;
                    if (weight > 0) set += 1 << v;
                    if (weight > most) {
                        most = weight;
                        likeliest = v;
                    }
                }
                long common = all == 0 ? 1 : gcd(most, all);
                // How likely it is may be asked ahead of which it is.
                if (i % 3 == 0) Due.is("how likely", x.cause(4, what, 0), most / common);
                Due.is("possible", x.causes(4, 2 * what), set);
                Due.is("likeliest", x.causes(4, 2 * what + 1), likeliest);
                Due.is("how likely", x.cause(4, what, 0), most / common);
                Due.is("below", x.cause(4, what, 1), all == 0 ? 1 : all / common);
            }
        }
    }

    private static long weight(Told told, int[] row, int teeth, int wind) {
        long weight = 1;
        int since = told.since;
        for (int j = 0; j < Math.min(8, row.length / 3); j++) {
            int bs = 10 * row[3 * j] + row[3 * j + 1];
            int crying = told.crying(bs, teeth, wind, since);
            weight *= row[3 * j + 2] == 1 ? crying : 12 - crying;
            since = row[3 * j + 2] == 1 ? 0 : told.behind(bs, since);
        }
        return weight;
    }

    private static void threesThatEnd() {
        CradleVeto x = new CradleVeto();
        x.bill(10);
        x.senator(0, 0);
        Senates.law(x, "t<9?12;0");
        // A cry rules out teeth 9; what comes behind the end would rule out the others.
        int[][] rows = {{0, 0, 1}, {0, 0, 1, 0, 0, 2, 0, 0, 0}, {0, 0, 1, 0, 0, -1}, {0, 0, 1, 1, 0, 0}, {0, 0, 1, 0, 1, 0},
            {0, 0, 1, -1, 0, 0}, {0, 0, 1, 0, 0}, {0, 0, 1, 0}};
        for (int[] row : rows) {
            Senates.bytes(x, 0, row);
            Due.is("it ends", x.causes(0, 0), 511);
            Due.is("the least of like ones", x.causes(0, 1), 0);
            Due.is("one", x.cause(0, 0, 0), 1);
            Due.is("by nine", x.cause(0, 0, 1), 9);
        }
        int[] nine = new int[27];
        for (int i = 0; i < 8; i++) nine[3 * i + 2] = 1;
        Senates.bytes(x, 0, nine);
        Due.is("eight at most", x.causes(0, 0), 511);
        nine[23] = 0;
        Senates.bytes(x, 0, nine);
        Due.is("the eighth counts", x.causes(0, 0), 0);
        Due.is("none can be", x.causes(0, 1), Due.NOT);
        Due.is("0", x.cause(0, 0, 0), 0);
        Due.is("by 1", x.cause(0, 0, 1), 1);
        x.row(0, 0, 0);
        Due.is("no threes", x.causes(0, 2), 1023);
        Due.is("no threes", x.causes(0, 3), 0);
        Due.is("1", x.cause(0, 1, 0), 1);
        Due.is("by 10", x.cause(0, 1, 1), 10);
    }

    private static void refusedCauses() {
        CradleVeto x = new CradleVeto();
        x.row(0, 0, 6);
        x.row(1, 2, 6);
        x.body(0);
        x.keep(2, 0);
        for (int shelf : new int[] {-1, 6}) {
            Due.is("shelf " + shelf, x.causes(shelf, 0), Due.BAD);
            Due.is("shelf " + shelf, x.cause(shelf, 0, 0), Due.NONE);
        }
        Due.is("what -1", x.causes(0, -1), Due.BAD);
        Due.is("what 4", x.causes(0, 4), Due.BAD);
        Due.is("BAD ahead of -11", x.causes(3, 4), Due.BAD);
        Due.is("nothing there", x.causes(3, 0), -11);
        Due.is("ints", x.causes(1, 0), -12);
        Due.is("a body", x.causes(2, 0), -12);
        Due.is("what -1", x.cause(0, -1, 0), Due.NONE);
        Due.is("what 2", x.cause(0, 2, 0), Due.NONE);
        Due.is("part 2", x.cause(0, 0, 2), Due.NONE);
        Due.is("part -1", x.cause(0, 0, -1), Due.NONE);
        for (int shelf = 1; shelf < 4; shelf++) Due.is("no bytes", x.cause(shelf, 0, 0), Due.NONE);
    }

    private static void apart() {
        CradleVeto x = new CradleVeto();
        for (int ab : new int[] {-1, 100, 0, 11, 55, 99, Integer.MAX_VALUE, Integer.MIN_VALUE}) {
            Due.is("apart " + ab, x.apart(ab, 0), Due.BAD);
        }
        Due.is("what -1", x.apart(1, -1), Due.BAD);
        Due.is("what 2", x.apart(1, 2), Due.BAD);
        Due.is("there are none", x.apart(1, 0), Due.NOT);
        x.bill(10);
        x.bill(15);
        Due.is("there are no senators", x.apart(1, 1), Due.NOT);
        x.senator(0, 0);
        x.senator(3, 0);
        Senates.law(x, "w");
        Due.is("none differ", x.apart(19, 0), Due.NOT);
        Due.is("none differ", x.apart(19, 1), Due.NOT);
        Senates.law(x, "t*(s+r)/5");
        Due.is("most", x.apart(17, 0), 11);
        Due.is("by how many", x.apart(17, 1), 10);
        Due.is("either way", x.apart(71, 0), 11);
        Due.is("either way", x.apart(71, 1), 10);
        Senates.law(x, "t");
        Due.is("of like ones the least", x.apart(90, 0), 0);
        Due.is("nine", x.apart(90, 1), 9);
        for (int b = 2; b < 10; b++) x.bill(10 + b % 5);
        for (int s = 2; s < 6; s++) x.senator(3 + s % 2, 0);
        x.mend(9, 1, 9);
        x.mend(5, 4, 9);
        Senates.law(x, "(s=9)&(r=9)?t;5");
        Due.is("the very last reading", x.apart(3, 0), 95);
        Due.is("three", x.apart(3, 1), 3);
        Due.is("the least teeth", x.apart(1, 1), 1);
        Due.is("the most teeth", x.apart(98, 1), 1);
    }

    private static void apartByAllWays() {
        Random random = new Random(19);
        for (int i = 0; i < 40; i++) {
            int bills = 1 + random.nextInt(10);
            int senators = 1 + random.nextInt(6);
            CradleVeto x = Senates.some(random, bills, senators);
            int a = random.nextInt(10);
            int b = (a + 1 + random.nextInt(9)) % 10;
            Told told = new Told(x);
            int most = 0;
            int which = Due.NOT;
            for (int bill = bills - 1; bill >= 0; bill--) {
                for (int s = senators - 1; s >= 0; s--) {
                    int bs = 10 * bill + s;
                    int differ = told.crying(bs, a, told.wind, told.since) - told.crying(bs, b, told.wind, told.since);
                    if (differ == 0 || Math.abs(differ) < most) continue;
                    most = Math.abs(differ);
                    which = bs;
                }
            }
            Due.is("which", x.apart(10 * a + b, 0), which);
            Due.is("by how many", x.apart(10 * a + b, 1), which == Due.NOT ? Due.NOT : most);
        }
    }

    private static void turns() {
        CradleVeto x = new CradleVeto();
        Due.is("no bill", x.byTurns(0, 1, 0), Due.BAD);
        x.bill(10);
        Due.is("no senator", x.byTurns(0, 1, 0), Due.BAD);
        x.senator(0, 0);
        for (int n : new int[] {0, 6, -1, Integer.MAX_VALUE}) Due.is("n " + n, x.byTurns(0, n, 0), Due.BAD);
        Due.is("what 2", x.byTurns(0, 1, 2), Due.BAD);
        Due.is("what -1", x.byTurns(0, 1, -1), Due.BAD);
        Due.is("bs -1", x.byTurns(-1, 1, 0), Due.BAD);
        Due.is("bs 1", x.byTurns(1, 1, 0), Due.BAD);
        Due.is("bs 10", x.byTurns(10, 1, 0), Due.BAD);
        Senates.law(x, "w");
        x.mend(0, 7, 1);
        Due.is("2 less is held at 0", x.byTurns(0, 1, 0), 0);
        Due.is("less", x.byTurns(0, 1, 1), 1);
        x.mend(0, 7, 0);
        Due.is("letting be is first of like ones", x.byTurns(0, 1, 1), 2);
        Senates.law(x, "9-w");
        x.mend(0, 7, 8);
        Due.is("2 more is held at 9", x.byTurns(0, 1, 0), 0);
        Due.is("more", x.byTurns(0, 1, 1), 0);
        Senates.law(x, "w=6|w=4?5;w=5?7;9");
        x.mend(0, 7, 4);
        Due.is("letting be ahead of more", x.byTurns(0, 1, 1), 2);
        x.mend(0, 7, 5);
        Due.is("no better", x.byTurns(0, 1, 1), 2);
        Senates.law(x, "w=3|w=7?5;9");
        Due.is("more ahead of less", x.byTurns(0, 1, 1), 0);
        Due.is("that", x.byTurns(0, 1, 0), 5);
        Due.is("nothing is done", x.of(0, 7), 5);
    }

    private static int played(Told told, int bs, int wind, int turn, int n) {
        if (turn == n) return told.crying(bs, told.teeth, wind, told.since);
        int most = Math.max(played(told, bs, Math.min(9, wind + 2), turn + 1, n),
                Math.max(played(told, bs, Math.max(0, wind - 2), turn + 1, n), played(told, bs, wind, turn + 1, n)));
        int least = Math.min(played(told, bs, Math.min(9, wind + 2), turn + 1, n),
                Math.min(played(told, bs, Math.max(0, wind - 2), turn + 1, n), played(told, bs, wind, turn + 1, n)));
        return turn % 2 == 0 ? least : most;
    }

    private static void turnsByAllWays() {
        Random random = new Random(23);
        String[] laws = {"w", "9-w", "w%3*4", "w*w%7", "w*5%11", "(w+1)*(w+3)%13", "w>4?w;9-w", "w=2?0;w=5?12;w=9?3;7"};
        for (int i = 0; i < 240; i++) {
            CradleVeto x = new CradleVeto();
            x.bill(10 + random.nextInt(90));
            x.senator(random.nextInt(10), 0);
            x.mend(0, 7, random.nextInt(10));
            Senates.law(x, laws[i % laws.length]);
            int n = 1 + random.nextInt(5);
            Told told = new Told(x);
            int due = played(told, 0, told.wind, 0, n);
            Due.is("that", x.byTurns(0, n, 0), due);
            int wind = told.wind;
            int first = 1;
            if (played(told, 0, Math.min(9, wind + 2), 1, n) == due) first = 0;
            if (played(told, 0, wind, 1, n) == due) first = 2;
            Due.is("first", x.byTurns(0, n, 1), first);
        }
    }
}
