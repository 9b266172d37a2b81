import java.util.Random;

/** Runs of wild calls: none throws, none goes on without end, the same calls give the same answers. */
public final class WildTest {
    private static final int CALLS = 512;
    private static final int[] FAR = {-1, Integer.MAX_VALUE, Integer.MIN_VALUE, Integer.MAX_VALUE - 1, -2, 61, 96, 128, 3012};
    private static final String SIGNS = "ftwrsm0123456789()(!-+*/%|&<=>?;";
    private static final String LONG_TEXT = "t>w?f/0+s;r*9999*9999*9999-m";
    private static int made;

    public static void main(String[] args) {
        for (int seed = 0; seed < 400; seed++) {
            long one = run(seed);
            if (seed % 8 == 0) Due.is("the same calls, run " + seed, run(seed), one);
        }
        Due.end();
    }

    private static int some(Random random, int most) {
        return random.nextInt(12) == 0 ? FAR[random.nextInt(FAR.length)] : random.nextInt(most);
    }

    private static long run(int seed) {
        Random random = new Random(seed);
        CradleVeto x = new CradleVeto();
        long sum = 0;
        made = 0;
        // No run goes beyond its calls, if the longest text comes last.
        for (int i = 0; made < CALLS - LONG_TEXT.length(); i++) {
            made++;
            int call = i < 40 ? random.nextInt(6) : random.nextInt(42);
            long answer;
            try {
                answer = asked(x, random, call);
            } catch (RuntimeException | Error thrown) {
                Due.so("run " + seed + ", call " + i + " of sort " + call + " threw " + thrown, false);
                return 0;
            }
            sum = sum * 31 + answer;
        }
        return sum;
    }

    private static long asked(CradleVeto x, Random random, int call) {
        int shelf = some(random, 6);
        int bs = some(random, 100);
        int part = some(random, 2);
        switch (call) {
            case 0: return x.bill(some(random, 100));
            case 1: return x.senator(some(random, 10), some(random, 3));
            case 2: return x.row(shelf, some(random, 6) / 3, some(random, 62));
            case 3: return x.put(shelf, some(random, 60), random.nextInt(5) - 1);
            case 4: return x.body(some(random, 8));
            case 5: return x.mend(some(random, 4), some(random, 10), some(random, 100));
            case 6: return x.bills(shelf, some(random, 30), some(random, 12));
            case 7: return x.of(some(random, 10), some(random, 10));
            case 8: return x.feed(SIGNS.charAt(random.nextInt(SIGNS.length())));
            case 9: return fedAndWritten(x, random);
            case 10: return x.cross(bs);
            case 11: return x.reader(some(random, 10));
            case 12: return x.passes(shelf, some(random, 10), part);
            case 13: return x.quiet(shelf, some(random, 11), some(random, 11), part);
            case 14: return x.mean(shelf, some(random, 11), part);
            case 15: return x.order(some(random, 1024), some(random, 6), some(random, 5));
            case 16: return x.orderWorth(some(random, 1024), some(random, 6), part);
            case 17: return x.pack(some(random, 61), part);
            case 18: return x.causes(shelf, some(random, 4));
            case 19: return x.cause(shelf, some(random, 2), part);
            case 20: return x.apart(bs, part);
            case 21: return x.power(some(random, 7), part);
            case 22: return x.leagues(part);
            case 23: return x.byTurns(bs, some(random, 6), part);
            case 24: return x.drawn(random.nextInt(), shelf, 100 * some(random, 31) + some(random, 13), some(random, 11) - 1);
            case 25: return x.read(bs);
            case 26: return x.fed();
            case 27: return x.born(some(random, 10), some(random, 10));
            case 28: return x.pass(some(random, 96));
            case 29: return x.led(some(random, 6));
            case 30: return x.image();
            case 31: return x.back();
            case 32: return x.undo();
            case 33: return x.redo();
            case 34: return x.act(some(random, 50), some(random, 4), random.nextInt());
            case 35: return x.trace(some(random, 24));
            case 36: return x.keep(shelf, some(random, 51) - 1);
            case 37: return x.element(shelf, some(random, 60));
            case 38: return x.shift(shelf, some(random, 60), some(random, 6), some(random, 60), some(random, 61));
            case 39: return x.taken(shelf, some(random, 8));
            case 40: return x.count(some(random, 6));
            default: return x.put(shelf, some(random, 60), random.nextLong());
        }
    }

    private static long fedAndWritten(CradleVeto x, Random random) {
        int kind = random.nextInt(3);
        if (kind == 0) return x.law();
        String text = kind == 1 ? "f%13" : LONG_TEXT;
        made += text.length();
        return Senates.law(x, text);
    }
}
