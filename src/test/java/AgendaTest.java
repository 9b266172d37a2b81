import java.util.Random;

/** Promises 11 to 16 and 23: agendas, orders, a quiet hour, years by draws. */
public final class AgendaTest {
    public static void main(String[] args) {
        oddsByAllWays();
        agendasThatEnd();
        refusedAgendas();
        orders();
        ordersByAllWays();
        packs();
        packsByAllWays();
        years();
        yearsOfEach();
        refusedYears();
        Due.end();
    }

    /** Sums over all ways of crying and passing, one after the other. */
    private static final class Ways {
        final Told told;
        final int[] readings;
        final int n;
        final long[] passing = new long[10];
        final long[] quietFrom = new long[11];
        long worth;

        Ways(Told told, int[] readings, int n) {
            this.told = told;
            this.readings = readings;
            this.n = n;
            go(0, told.since, 1, 0, 0);
        }

        private void go(int j, int since, long weight, int worthSoFar, int lastCryBehind) {
            if (j == n) {
                worth += weight * worthSoFar;
                for (int k = lastCryBehind; k <= 10; k++) quietFrom[k] += weight;
                return;
            }
            int bs = readings[j];
            int crying = told.crying(bs, told.teeth, told.wind, since);
            long left = 1;
            for (int i = j + 1; i < n; i++) left *= 12;
            passing[j] += weight * (12 - crying) * left;
            if (crying > 0) go(j + 1, 0, weight * crying, worthSoFar, j + 1);
            if (crying < 12) go(j + 1, told.behind(bs, since), weight * (12 - crying), worthSoFar + told.worth(bs), lastCryBehind);
        }
    }

    private static long twelves(int times) {
        return times == 0 ? 1 : 12 * twelves(times - 1);
    }

    private static long gcd(long a, long b) {
        return b == 0 ? a : gcd(b, a % b);
    }

    private static void fraction(String what, long gotAbove, long gotBelow, long above, long below) {
        long common = gcd(above, below);
        Due.is(what + " above", gotAbove, above / common);
        Due.is(what + " below", gotBelow, below / common);
    }

    private static void oddsByAllWays() {
        Random random = new Random(3);
        for (int i = 0; i < 60; i++) {
            int bills = 1 + random.nextInt(10);
            int senators = 1 + random.nextInt(6);
            CradleVeto x = Senates.some(random, bills, senators);
            int size = random.nextInt(i % 20 == 0 ? 11 : 7);
            int[] readings = new int[size];
            int[] row = new int[2 * size];
            for (int j = 0; j < size; j++) {
                row[2 * j] = random.nextInt(bills);
                row[2 * j + 1] = random.nextInt(senators);
                readings[j] = 10 * row[2 * j] + row[2 * j + 1];
            }
            int shelf = random.nextInt(6);
            Senates.bytes(x, shelf, row);
            Told told = new Told(x);
            for (int n = 0; n <= 10; n++) {
                if (n > size && n != 10) continue;
                int read = Math.min(n, size);
                Ways ways = new Ways(told, readings, read);
                long all = 1;
                for (int j = 0; j < read; j++) all *= 12;
                fraction("mean", x.mean(shelf, n, 0), x.mean(shelf, n, 1), ways.worth, all);
                for (int k = 0; k <= 10; k++) {
                    fraction("quiet", x.quiet(shelf, n, k, 0), x.quiet(shelf, n, k, 1), ways.quietFrom[k], all);
                }
                if (n < size) continue;
                for (int k = 0; k < size; k++) {
                    fraction("passes", x.passes(shelf, k, 0), x.passes(shelf, k, 1), ways.passing[k], all);
                }
                Due.is("no such", x.passes(shelf, size, 0), Due.NONE);
            }
        }
    }

    /** An agenda of bills that surely pass: so long is it. */
    private static void agendasThatEnd() {
        CradleVeto x = new CradleVeto();
        x.bill(10);
        x.bill(10);
        x.senator(0, 0);
        Senates.law(x, "0");
        int[][] rows = {{}, {0}, {0, 0}, {0, 0, 1}, {0, 0, 1, 0}, {0, 0, 2, 0, 1, 0}, {0, 0, 1, 1, 1, 0}, {-1, 0, 1, 0}, {0, -1},
            {0, 0, 0, 0, 0, 0, 127, 0}, {0, 0, -128, 0}};
        int[] due = {0, 0, 1, 1, 2, 1, 1, 0, 0, 3, 1};
        for (int i = 0; i < rows.length; i++) {
            Senates.bytes(x, 3, rows[i]);
            Due.is("worth of row " + i, x.mean(3, 10, 0), 10 * due[i]);
            Due.is("below", x.mean(3, 10, 1), 1);
            Due.is("none cries", x.quiet(3, 10, 0, 0), 1);
            for (int k = 0; k < 10; k++) Due.is("passes", x.passes(3, k, 1), k < due[i] ? 1 : Due.NONE);
        }
        x.row(3, 0, 60);
        Due.is("ten at most", x.mean(3, 10, 0), 100);
        Due.is("the tenth", x.passes(3, 9, 0), 1);
        Due.is("no eleventh", x.passes(3, 10, 0), Due.NONE);
        Due.is("years, ten at most", x.drawn(5, 3, 100, 0), 10);
    }

    private static void refusedAgendas() {
        CradleVeto x = new CradleVeto();
        x.bill(25);
        x.senator(0, 0);
        x.row(0, 0, 20);
        x.body(0);
        x.keep(2, 0);
        x.row(3, 1, 4);
        x.row(4, 4, 4);
        for (int shelf : new int[] {-1, 6, 1, 2, 3, 4, Integer.MAX_VALUE, Integer.MIN_VALUE}) {
            Due.is("passes " + shelf, x.passes(shelf, 0, 0), Due.NONE);
            Due.is("quiet " + shelf, x.quiet(shelf, 0, 0, 0), Due.NONE);
            Due.is("mean " + shelf, x.mean(shelf, 0, 0), Due.NONE);
        }
        for (int part : new int[] {-1, 2, Integer.MIN_VALUE}) {
            Due.is("passes part", x.passes(0, 0, part), Due.NONE);
            Due.is("quiet part", x.quiet(0, 0, 0, part), Due.NONE);
            Due.is("mean part", x.mean(0, 0, part), Due.NONE);
            Due.is("order part", x.orderWorth(1, 0, part), Due.NONE);
        }
        for (int n : new int[] {-1, 11, Integer.MAX_VALUE}) {
            Due.is("passes k", x.passes(0, n, 0), Due.NONE);
            Due.is("quiet n", x.quiet(0, n, 0, 0), Due.NONE);
            Due.is("quiet k", x.quiet(0, 0, n, 0), Due.NONE);
            Due.is("mean n", x.mean(0, n, 0), Due.NONE);
        }
        Due.is("quiet of ten", x.quiet(0, 10, 10, 1), 1);
    }

    private static void orders() {
        CradleVeto x = new CradleVeto();
        Due.is("no senators", x.order(0, 0, 0), Due.BAD);
        for (int i = 0; i < 6; i++) x.bill(10 + 10 * i);
        x.senator(0, 0);
        Due.is("none", x.order(0, 0, 0), Due.NOT);
        Due.is("none: 0", x.orderWorth(0, 0, 0), 0);
        Due.is("by 1", x.orderWorth(0, 0, 1), 1);
        Due.is("six", x.order(63, 0, 0), Due.BAD);
        Due.is("six", x.orderWorth(63, 0, 0), Due.NONE);
        Due.is("unknown", x.order(64, 0, 0), Due.BAD);
        Due.is("unknown, too", x.order(65, 0, 0), Due.BAD);
        Due.is("below 0", x.order(-1, 0, 0), Due.BAD);
        Due.is("the least", x.order(Integer.MIN_VALUE, 0, 0), Due.BAD);
        Due.is("unknown", x.orderWorth(Integer.MIN_VALUE + 1, 0, 0), Due.NONE);
        Due.is("no senator", x.order(1, 1, 0), Due.BAD);
        Due.is("no senator", x.order(1, -1, 0), Due.BAD);
        Due.is("no senator", x.orderWorth(1, 1, 0), Due.NONE);
        Due.is("k -1", x.order(1, 0, -1), Due.BAD);
        Due.is("k far", x.order(1, 0, Integer.MAX_VALUE), Due.NOT);
        Due.is("BAD ahead of NOT", x.order(64, 0, 9), Due.BAD);
        Senates.law(x, "3");
        for (int k = 0; k < 5; k++) Due.is("of like ones the first by numbers", x.order(62, 0, k), k + 1);
        Due.is("there are five", x.order(62, 0, 5), Due.NOT);
        Due.is("each by three quarters", x.orderWorth(62, 0, 0), 75);
        Due.is("each by three quarters", x.orderWorth(62, 0, 1), 2);
        // Later ones pass less likely: the worth first.
        Senates.law(x, "f-1");
        x.mend(2, 3, 90);
        x.mend(2, 0, 1);
        x.mend(1, 0, 1);
        Due.is("worth first", x.order(6, 0, 0), 2);
        Due.is("then the other", x.order(6, 0, 1), 1);
    }

    private static void ordersByAllWays() {
        Random random = new Random(5);
        for (int i = 0; i < 40; i++) {
            int bills = 1 + random.nextInt(10);
            CradleVeto x = Senates.some(random, bills, 2);
            int set = 0;
            int count = Math.min(bills, random.nextInt(6));
            while (Integer.bitCount(set) < count) set |= 1 << random.nextInt(bills);
            if (random.nextInt(3) == 0) {
                for (int b = 0; b < bills; b++) x.mend(b, 3, 20);
            }
            int[] numbers = new int[count];
            int at = 0;
            for (int b = 0; b < bills; b++) {
                if ((set >> b & 1) == 1) numbers[at++] = b;
            }
            best = -1;
            tryAll(new Told(x), numbers, new int[count], 0, new boolean[count]);
            int senator = 1;
            // The worth may be asked ahead of the order.
            if (i % 2 == 0) Due.is("worth first", x.orderWorth(set, senator, 0), best / gcd(best, twelves(count)));
            for (int k = 0; k < count; k++) Due.is("order", x.order(set, senator, k), order[k]);
            Due.is("no more", x.order(set, senator, count), Due.NOT);
            long all = 1;
            for (int k = 0; k < count; k++) all *= 12;
            fraction("order", x.orderWorth(set, senator, 0), x.orderWorth(set, senator, 1), best, all);
        }
    }

    private static long best;
    private static int[] order;

    private static void tryAll(Told told, int[] numbers, int[] now, int at, boolean[] used) {
        if (at == numbers.length) {
            int[] readings = new int[at];
            for (int i = 0; i < at; i++) readings[i] = 10 * now[i] + 1;
            long worth = new Ways(told, readings, at).worth;
            if (worth > best) {
                best = worth;
                order = now.clone();
            }
            return;
        }
        for (int i = 0; i < numbers.length; i++) {
            if (used[i]) continue;
            used[i] = true;
            now[at] = numbers[i];
            tryAll(told, numbers, now, at + 1, used);
            used[i] = false;
        }
    }

    private static void packs() {
        CradleVeto x = new CradleVeto();
        Due.is("no bills", x.pack(60, 0), 0);
        Due.is("no bills", x.pack(60, 1), 0);
        for (int q : new int[] {-1, 61, Integer.MIN_VALUE}) Due.is("quarters " + q, x.pack(q, 0), Due.BAD);
        Due.is("what -1", x.pack(0, -1), Due.BAD);
        Due.is("what 2", x.pack(0, 2), Due.BAD);
        x.bill(20);
        x.bill(20);
        x.bill(40);
        x.mend(2, 3, 20);
        Due.is("of like ones fewest", x.pack(4, 1), 4);
        Due.is("worth", x.pack(4, 0), 20);
        Due.is("of like ones the least", x.pack(2, 1), 1);
        Due.is("all", x.pack(8, 1), 7);
        Due.is("too short", x.pack(1, 1), 0);
        x.mend(0, 3, 0);
        Due.is("none without worth", x.pack(60, 1), 6);
    }

    private static void packsByAllWays() {
        Random random = new Random(9);
        for (int i = 0; i < 40; i++) {
            int bills = 1 + random.nextInt(10);
            CradleVeto x = Senates.some(random, bills, 1);
            if (i % 2 == 0) {
                for (int b = 0; b < bills; b++) x.mend(b, 3, 5 * random.nextInt(4));
            }
            Told told = new Told(x);
            int quarters = random.nextInt(61);
            int most = -1;
            int which = 0;
            for (int set = (1 << bills) - 1; set >= 0; set--) {
                int length = 0;
                int worth = 0;
                for (int b = 0; b < bills; b++) {
                    if ((set >> b & 1) == 0) continue;
                    length += told.length(10 * b);
                    worth += told.worth(10 * b);
                }
                if (length > quarters || worth < most) continue;
                if (worth == most && Integer.bitCount(set) > Integer.bitCount(which)) continue;
                most = worth;
                which = set;
            }
            Due.is("pack worth", x.pack(quarters, 0), most);
            Due.is("pack which", x.pack(quarters, 1), which);
        }
    }

    private static void years() {
        Random random = new Random(13);
        for (int i = 0; i < 40; i++) {
            int bills = 1 + random.nextInt(10);
            int senators = 1 + random.nextInt(6);
            CradleVeto x = Senates.some(random, bills, senators);
            int size = random.nextInt(4);
            int[] row = new int[2 * size];
            for (int j = 0; j < size; j++) {
                row[2 * j] = random.nextInt(bills);
                row[2 * j + 1] = random.nextInt(senators);
            }
            Senates.bytes(x, 1, row);
            int seed = random.nextInt();
            int years = 1 + random.nextInt(30);
            int births = random.nextInt(13);
            int bill = random.nextInt(bills);
            Told told = new Told(x);
            int z = seed;
            int worth = 0;
            int often = 0;
            for (int year = 0; year < years; year++) {
                int teeth = told.teeth;
                int wind = told.wind;
                int since = told.since;
                for (int j = 0; j < size; j++) {
                    z = z * 1103515245 + 12345;
                    if ((z >>> 16) % 12 < births) {
                        teeth = 0;
                        wind = (z >>> 20) % 4;
                        since = 0;
                    }
                    int bs = 10 * row[2 * j] + row[2 * j + 1];
                    if ((z >>> 8) % 12 < told.crying(bs, teeth, wind, since)) {
                        since = 0;
                        continue;
                    }
                    since = told.behind(bs, since);
                    worth += told.worth(bs);
                    if (bs / 10 == bill) often++;
                }
            }
            int was = x.of(0, 9);
            Due.is("years worth", x.drawn(seed, 1, 100 * years + births, -1), worth);
            Due.is("years often", x.drawn(seed, 1, 100 * years + births, bill), often);
            Due.is("no deed", x.of(0, 9), was);
            Due.is("nothing is led", x.led(0), 0);
        }
    }

    /** Each bill by each senator passes: so often does each one. */
    private static void yearsOfEach() {
        CradleVeto x = new CradleVeto();
        for (int b = 0; b < 10; b++) x.bill(10 + b);
        for (int s = 0; s < 6; s++) x.senator(s, 0);
        Senates.law(x, "0");
        for (int s = 0; s < 6; s++) {
            int[] row = new int[20];
            for (int b = 0; b < 10; b++) {
                row[2 * b] = 9 - b;
                row[2 * b + 1] = s;
            }
            Senates.bytes(x, 0, row);
            for (int b = 0; b < 10; b++) Due.is("often", x.drawn(s, 0, 712, b), 7);
            Due.is("worth", x.drawn(s, 0, 712, -1), 700);
        }
    }

    private static void refusedYears() {
        CradleVeto x = new CradleVeto();
        x.bill(25);
        x.senator(0, 0);
        x.row(0, 0, 20);
        x.body(0);
        x.keep(2, 0);
        x.row(3, 1, 4);
        for (int shelf : new int[] {-1, 6}) Due.is("shelf " + shelf, x.drawn(1, shelf, 100, -1), Due.BAD);
        for (int nb : new int[] {99, 0, -100, 113, 199, 3013, 3100, Integer.MAX_VALUE, Integer.MIN_VALUE}) {
            Due.is("nb " + nb, x.drawn(1, 0, nb, -1), Due.BAD);
        }
        for (int bill : new int[] {-2, 1, 10, Integer.MIN_VALUE}) Due.is("bill " + bill, x.drawn(1, 0, 100, bill), Due.BAD);
        Due.is("nothing there", x.drawn(1, 1, 100, -1), -11);
        Due.is("a body", x.drawn(1, 2, 100, -1), -12);
        Due.is("shorts", x.drawn(1, 3, 100, -1), -12);
        Due.is("BAD ahead of -11", x.drawn(1, 1, 99, -1), Due.BAD);
        Due.is("BAD ahead of -12", x.drawn(1, 3, 100, 1), Due.BAD);
        Due.so("thirty years, twelve births", x.drawn(1, 0, 3012, -1) >= 0);
    }
}
