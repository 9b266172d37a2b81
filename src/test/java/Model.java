import java.math.BigInteger;
import java.util.ArrayList;
import java.util.HashMap;
import java.util.List;
import java.util.Map;

/**
 * The document told once more, in its plainest way: every world of readings is gone through, every order, every set,
 * every turn. It has the class's calls by name, so that ModelTest can ask both the same.
 */
final class Model {
    static final int BAD = -1, NOT = -2, FULL = -3, STATE = -5, VOID = -2000000000;
    static final long NONE = Long.MIN_VALUE;
    private static final int TEETH = 0, WIND = 1, SINCE = 2, SEED = 3;
    /** By what of mend() the most; the least is 0, but for LENGTH. */
    private static final int[] MOST = {9, 9, 3, 99, 9, 2, 9, 9, 95};
    private static final Map<Integer, BigInteger[][]> POWERS = new HashMap<>();

    /** LENGTH, SHARP, MATTER, WORTH of each. */
    private final List<int[]> bills = new ArrayList<>();
    /** RUMBLE, PARTY of each. */
    private final List<int[]> senators = new ArrayList<>();
    private int[] infant = {0, 0, 0, 1};
    private int[] led = new int[6];
    private int[] infantKept;
    private int[] ledKept;
    private String tape = "";
    private String law;
    private final Map<List<Integer>, Integer> known = new HashMap<>();
    /** number, what, was, is of each. */
    private final List<int[]> done = new ArrayList<>();
    private final List<int[]> undone = new ArrayList<>();
    private final Object[] shelves = new Object[6];
    private final List<Integer> bodies = new ArrayList<>();
    private List<Integer> trace = new ArrayList<>();

    private record Row(int sort, long[] elements) {
    }

    private record Body(int number) {
    }

    // ---- bills, senators, the infant

    int bill(int ls) {
        if (ls < 10 || ls > 99) return BAD;
        if (bills.size() == 10) return FULL;
        bills.add(new int[] {ls / 10, ls % 10, 0, 10});
        return bills.size() - 1;
    }

    int bills(int shelf, int i, int n) {
        if (!within(shelf, 0, 5) || !within(n, 1, 10)) return BAD;
        if (shelves[shelf] == null) return 0;
        if (!isBytes(shelf)) return -12;
        if (i < 0) return 0;
        int came = 0;
        for (long[] three : parts(shelf, i, 3, n)) {
            if (!within(three[0], 1, 9) || !within(three[1], 0, 9) || !within(three[2], 0, 99) || bills.size() == 10) break;
            bills.add(new int[] {(int) three[0], (int) three[1], 0, (int) three[2]});
            came++;
        }
        return came;
    }

    int senator(int rumble, int party) {
        if (!within(rumble, 0, 9) || !within(party, 0, 2)) return BAD;
        if (senators.size() == 6) return FULL;
        senators.add(new int[] {rumble, party});
        return senators.size() - 1;
    }

    int mend(int number, int what, int v) {
        int was = of(number, what);
        if (!exists(number, what)) return VOID;
        if (what < 9 && !within(v, what == 0 ? 1 : 0, MOST[what])) return VOID;
        if (v == was) return was;
        lay(number, what, v);
        done.add(new int[] {number, what, was, v});
        if (done.size() > 40) done.remove(0);
        undone.clear();
        return was;
    }

    int of(int number, int what) {
        if (!exists(number, what)) return VOID;
        if (what < 4) return bills.get(number)[what];
        return what < 6 ? senators.get(number)[what - 4] : infant[what - 6];
    }

    private boolean exists(int number, int what) {
        if (!within(what, 0, 9)) return false;
        return within(number, 0, (what < 4 ? bills.size() : what < 6 ? senators.size() : 1) - 1);
    }

    private void lay(int number, int what, int v) {
        if (what < 4) bills.get(number)[what] = v;
        else if (what < 6) senators.get(number)[what - 4] = v;
        else infant[what - 6] = v;
    }

    int feed(int letter) {
        if (!within(letter, 0, 255)) return BAD;
        if (tape.length() == 120) return FULL;
        tape += (char) letter;
        return tape.length();
    }

    int law() {
        int fault = ModelText.fault(tape);
        if (fault < 0) law = tape;
        if (fault < 0) known.clear();
        tape = "";
        return fault < 0 ? 1 : -100 - fault;
    }

    /** In how many of twelve, SINCE as it is then. */
    private int byLaw(int f, int t, int w, int r, int s, int m) {
        List<Integer> key = List.of(f, t, w, r, s, m);
        if (!known.containsKey(key)) {
            int given = law == null ? f / 4 + t / 3 + w / 3 + r / 3 + s / 3 - 2
                : ModelText.given(law, Map.of('f', f, 't', t, 'w', w, 'r', r, 's', s, 'm', m));
            known.put(key, Math.max(0, Math.min(12, given)));
        }
        return known.get(key);
    }

    private int crying(int[] reading, int t, int w, int since) {
        int[] bill = bills.get(reading[0]);
        return byLaw(behind(reading, since), t, w, senators.get(reading[1])[0], bill[1], bill[2]);
    }

    private int crying(int[] reading, int since) {
        return crying(reading, infant[TEETH], infant[WIND], since);
    }

    private int behind(int[] reading, int since) {
        return Math.min(95, since + bills.get(reading[0])[0]);
    }

    private boolean isReading(long bill, long senator) {
        return within(bill, 0, bills.size() - 1) && within(senator, 0, senators.size() - 1);
    }

    private boolean isReading(int bs) {
        return bs >= 0 && isReading(bs / 10, bs % 10);
    }

    private static int[] reading(int bs) {
        return new int[] {bs / 10, bs % 10};
    }

    int cross(int bs) {
        return isReading(bs) ? crying(reading(bs), infant[SINCE]) : BAD;
    }

    int reader(int bill) {
        if (!within(bill, 0, bills.size() - 1)) return BAD;
        for (int twelfths = 0; twelfths <= 12; twelfths++) {
            for (int s = 0; s < senators.size(); s++) {
                if (cross(10 * bill + s) == twelfths) return s;
            }
        }
        return NOT;
    }

    // ---- agendas

    private List<int[]> agenda(int shelf, int most) {
        List<int[]> all = new ArrayList<>();
        for (long[] two : parts(shelf, 0, 2, Math.min(10, most))) {
            if (!isReading(two[0], two[1])) break;
            all.add(new int[] {(int) two[0], (int) two[1]});
        }
        return all;
    }

    /** What a world is worth for a question, by which readings passed in it (bits). */
    private interface Asked {
        long of(int passed);
    }

    /** All worlds from now, each by how likely it is (in twelfths of each reading) times what is asked of it. */
    private long worlds(List<int[]> agenda, int at, int since, int passed, Asked asked) {
        if (at == agenda.size()) return asked.of(passed);
        int crying = crying(agenda.get(at), since);
        long all = 0;
        if (crying > 0) all += crying * worlds(agenda, at + 1, 0, passed, asked);
        if (crying < 12) {
            int then = behind(agenda.get(at), since);
            all += (12 - crying) * worlds(agenda, at + 1, then, passed | 1 << at, asked);
        }
        return all;
    }

    private static BigInteger part(BigInteger above, BigInteger below, int part) {
        BigInteger common = above.gcd(below);
        return (part == 0 ? above : below).divide(common);
    }

    private long inTheMean(List<int[]> agenda, int part, Asked asked) {
        BigInteger above = BigInteger.valueOf(worlds(agenda, 0, infant[SINCE], 0, asked));
        return part(above, BigInteger.valueOf(12).pow(agenda.size()), part).longValueExact();
    }

    long passes(int shelf, int k, int part) {
        if (!isPart(part) || !isBytes(shelf) || k < 0 || k >= agenda(shelf, 10).size()) return NONE;
        return inTheMean(agenda(shelf, k + 1), part, passed -> passed >> k & 1);
    }

    long quiet(int shelf, int n, int k, int part) {
        if (!isPart(part) || !isBytes(shelf) || !within(n, 0, 10) || !within(k, 0, 10)) return NONE;
        List<int[]> agenda = agenda(shelf, n);
        int all = (1 << agenda.size()) - 1;
        return inTheMean(agenda, part, passed -> passed >> k == all >> k ? 1 : 0);
    }

    private long worth(List<int[]> agenda, int passed) {
        long worth = 0;
        for (int i = 0; i < agenda.size(); i++) worth += (passed >> i & 1) * bills.get(agenda.get(i)[0])[3];
        return worth;
    }

    long mean(int shelf, int n, int part) {
        if (!isPart(part) || !isBytes(shelf) || !within(n, 0, 10)) return NONE;
        List<int[]> agenda = agenda(shelf, n);
        return inTheMean(agenda, part, passed -> worth(agenda, passed));
    }

    private boolean mayOrder(int set, int senator) {
        return set >= 0 && set < 1 << bills.size() && Integer.bitCount(set) <= 5 && within(senator, 0, senators.size() - 1);
    }

    /** The best order that begins so; of like ones the one found first. */
    private List<int[]> order(int left, int senator, List<int[]> begun) {
        if (left == 0) return begun;
        List<int[]> best = null;
        for (int b = 0; b < 10; b++) {
            if ((left >> b & 1) == 0) continue;
            List<int[]> more = new ArrayList<>(begun);
            more.add(new int[] {b, senator});
            List<int[]> whole = order(left & ~(1 << b), senator, more);
            if (best == null || worthOf(whole) > worthOf(best)) best = whole;
        }
        return best;
    }

    private long worthOf(List<int[]> agenda) {
        return worlds(agenda, 0, infant[SINCE], 0, passed -> worth(agenda, passed));
    }

    int order(int set, int senator, int k) {
        if (!mayOrder(set, senator) || k < 0) return BAD;
        List<int[]> best = order(set, senator, new ArrayList<>());
        return k < best.size() ? best.get(k)[0] : NOT;
    }

    long orderWorth(int set, int senator, int part) {
        if (!mayOrder(set, senator) || !isPart(part)) return NONE;
        List<int[]> best = order(set, senator, new ArrayList<>());
        return inTheMean(best, part, passed -> worth(best, passed));
    }

    private int together(int set, int what) {
        int all = 0;
        for (int b = 0; b < bills.size(); b++) all += (set >> b & 1) * bills.get(b)[what];
        return all;
    }

    int pack(int quarters, int what) {
        if (!within(quarters, 0, 60) || !isPart(what)) return BAD;
        int best = -1;
        // Fewest first, then the least: the first one of most worth stays.
        for (int size = 0; size <= bills.size(); size++) {
            for (int set = 0; set < 1 << bills.size(); set++) {
                if (Integer.bitCount(set) != size || together(set, 0) > quarters) continue;
                if (best < 0 || together(set, 3) > together(best, 3)) best = set;
            }
        }
        return what == 0 ? together(best, 3) : best;
    }

    // ---- why it cried, power

    /** How likely what was heard is, by each TEETH or each WIND, in twelfths of each. */
    private long[] heard(int shelf, int what) {
        long[] likely = new long[10];
        for (int v = 0; v < 10; v++) {
            likely[v] = 1;
            int since = infant[SINCE];
            for (long[] three : parts(shelf, 0, 3, 8)) {
                if (!isReading(three[0], three[1]) || !within(three[2], 0, 1)) break;
                int[] reading = {(int) three[0], (int) three[1]};
                int crying = crying(reading, what == 0 ? v : infant[TEETH], what == 1 ? v : infant[WIND], since);
                likely[v] *= three[2] == 1 ? crying : 12 - crying;
                since = three[2] == 1 ? 0 : behind(reading, since);
            }
        }
        return likely;
    }

    int causes(int shelf, int what) {
        if (!within(shelf, 0, 5) || !within(what, 0, 3)) return BAD;
        if (!isBytes(shelf)) return shelves[shelf] == null ? -11 : -12;
        long[] likely = heard(shelf, what / 2);
        int set = 0;
        int best = NOT;
        for (int v = 9; v >= 0; v--) {
            if (likely[v] == 0) continue;
            set += 1 << v;
            if (best == NOT || likely[v] >= likely[best]) best = v;
        }
        return what % 2 == 0 ? set : best;
    }

    long cause(int shelf, int what, int part) {
        if (!isPart(what) || !isPart(part) || !isBytes(shelf)) return NONE;
        int best = causes(shelf, 2 * what + 1);
        if (best == NOT) return part;
        long[] likely = heard(shelf, what);
        BigInteger all = BigInteger.ZERO;
        for (long each : likely) all = all.add(BigInteger.valueOf(each));
        return part(BigInteger.valueOf(likely[best]), all, part).longValueExact();
    }

    int apart(int ab, int what) {
        if (!within(ab, 0, 99) || ab / 10 == ab % 10 || !isPart(what)) return BAD;
        for (int differ = 12; differ > 0; differ--) {
            for (int bs = 0; bs < 100; bs++) {
                if (!isReading(bs)) continue;
                int one = crying(reading(bs), ab / 10, infant[WIND], infant[SINCE]);
                int other = crying(reading(bs), ab % 10, infant[WIND], infant[SINCE]);
                if (Math.abs(one - other) == differ) return what == 0 ? bs : differ;
            }
        }
        return NOT;
    }

    long power(int one, int part) {
        if (!within(one, 0, senators.size()) || !isPart(part)) return NONE;
        if (!POWERS.containsKey(senators.size())) POWERS.put(senators.size(), powers(senators.size()));
        return POWERS.get(senators.size())[one][part].longValueExact();
    }

    private static BigInteger[][] powers(int all) {
        long[] carries = new long[all + 1];
        long orders = sayYes(all, 0, 0, carries);
        BigInteger[][] fractions = new BigInteger[all + 1][2];
        for (int one = 0; one <= all; one++) {
            for (int part = 0; part < 2; part++) {
                fractions[one][part] = part(BigInteger.valueOf(carries[one]), BigInteger.valueOf(orders), part);
            }
        }
        return fractions;
    }

    /** All orders behind those who have said yes (bits; the infant's is the last): how many; each counts for who carries. */
    private static long sayYes(int all, int yes, int by, long[] carries) {
        if (yes == (1 << all + 1) - 1) {
            if (all > 0) carries[by]++;
            return 1;
        }
        long orders = 0;
        for (int one = 0; one <= all; one++) {
            if ((yes >> one & 1) == 1) continue;
            int then = yes | 1 << one;
            orders += sayYes(all, then, !isCarried(all, yes) && isCarried(all, then) ? one : by, carries);
        }
        return orders;
    }

    private static boolean isCarried(int all, int yes) {
        return (yes >> all & 1) == 1 && 2 * (Integer.bitCount(yes) - 1) > all;
    }

    private int members(int parties) {
        int all = 0;
        for (int[] each : senators) all += parties >> each[1] & 1;
        return all;
    }

    int leagues(int what) {
        if (!isPart(what)) return BAD;
        int found = 0;
        int least = NOT;
        for (int set = 7; set > 0; set--) {
            boolean isSet = true;
            for (int p = 0; p < 3; p++) isSet &= (set >> p & 1) == 0 || members(1 << p) > 0;
            if (!isSet || 2 * members(set) <= senators.size()) continue;
            found++;
            if (least == NOT || members(set) <= members(least)) least = set;
        }
        return what == 0 ? found : least;
    }

    private static int windBehind(int wind, int move) {
        return move == 0 ? Math.min(9, wind + 2) : move == 1 ? Math.max(0, wind - 2) : wind;
    }

    /** What it comes to, if both do their best from this turn on. */
    private int turns(int bs, int wind, int turn, int n) {
        if (turn == n) return crying(reading(bs), infant[TEETH], wind, infant[SINCE]);
        int more = turns(bs, windBehind(wind, 0), turn + 1, n);
        int less = turns(bs, windBehind(wind, 1), turn + 1, n);
        int same = turns(bs, wind, turn + 1, n);
        return turn % 2 == 0 ? Math.min(same, Math.min(more, less)) : Math.max(same, Math.max(more, less));
    }

    int byTurns(int bs, int n, int what) {
        if (!isReading(bs) || !within(n, 1, 5) || !isPart(what)) return BAD;
        int best = turns(bs, infant[WIND], 0, n);
        if (what == 0) return best;
        for (int move : new int[] {2, 0, 1}) {
            if (turns(bs, windBehind(infant[WIND], move), 1, n) == best) return move;
        }
        return BAD;
    }

    private static int drawBehind(int z) {
        return z * 1103515245 + 12345;
    }

    int drawn(int seed, int shelf, int nb, int bill) {
        int n = nb / 100;
        int births = nb % 100;
        boolean isSaid = within(n, 1, 30) && within(births, 0, 12) && within(bill, -1, bills.size() - 1);
        if (!within(shelf, 0, 5) || !isSaid) return BAD;
        if (!isBytes(shelf)) return shelves[shelf] == null ? -11 : -12;
        int z = seed;
        int worth = 0;
        int[] passed = new int[10];
        for (int year = 0; year < n; year++) {
            int[] its = infant.clone();
            for (int[] reading : agenda(shelf, 10)) {
                z = drawBehind(z);
                if ((z >>> 16) % 12 < births) its = new int[] {0, (z >>> 20) % 4, 0, 0};
                boolean cries = (z >>> 8) % 12 < crying(reading, its[TEETH], its[WIND], its[SINCE]);
                its[SINCE] = cries ? 0 : behind(reading, its[SINCE]);
                if (cries) continue;
                passed[reading[0]]++;
                worth += bills.get(reading[0])[3];
            }
        }
        return bill == -1 ? worth : passed[bill];
    }

    // ---- in deed

    int read(int bs) {
        if (!isReading(bs)) return BAD;
        infant[SEED] = drawBehind(infant[SEED]);
        boolean cries = (infant[SEED] >>> 8) % 12 < crying(reading(bs), infant[SINCE]);
        infant[SINCE] = cries ? 0 : behind(reading(bs), infant[SINCE]);
        led[0]++;
        led[cries ? 1 : 2]++;
        if (cries) led[4]++;
        else led[3] += bills.get(bs / 10)[3];
        return cries ? 0 : 1;
    }

    int fed() {
        int was = infant[SINCE];
        infant[SINCE] = 0;
        led[4]++;
        return was;
    }

    int born(int teeth, int wind) {
        if (!within(teeth, 0, 9) || !within(wind, 0, 9)) return BAD;
        infant = new int[] {teeth, wind, 0, infant[SEED]};
        led[5]++;
        return wind;
    }

    int pass(int quarters) {
        if (!within(quarters, 1, 95)) return BAD;
        infant[SINCE] = Math.min(95, infant[SINCE] + quarters);
        return infant[SINCE];
    }

    int led(int what) {
        return within(what, 0, 5) ? led[what] : BAD;
    }

    int image() {
        infantKept = infant.clone();
        ledKept = led.clone();
        return led[0];
    }

    int back() {
        if (ledKept == null) return STATE;
        infant = infantKept.clone();
        led = ledKept.clone();
        return led[0];
    }

    int undo() {
        if (done.isEmpty()) return STATE;
        int[] latest = done.remove(done.size() - 1);
        undone.add(latest);
        lay(latest[0], latest[1], latest[2]);
        return done.size();
    }

    int redo() {
        if (undone.isEmpty()) return STATE;
        int[] latest = undone.remove(undone.size() - 1);
        done.add(latest);
        lay(latest[0], latest[1], latest[3]);
        return undone.size();
    }

    // ---- acts, shelves

    /** Acts as Java itself has them: a class each KIND. */
    private interface Reads {
        int number();

        void ran(int body);

        default int reads(int x) {
            ran(1);
            return x + number();
        }
    }

    private interface Tells {
        int cries(int x);

        int hushes(int x);

        void ran(int body);

        default int tells(int x) {
            ran(2);
            return cries(x) - hushes(1);
        }
    }

    private static class Clause implements Reads, Tells {
        int number;
        final List<Integer> ran = new ArrayList<>();

        public int number() {
            return number;
        }

        public void ran(int body) {
            ran.add(body);
        }

        public int cries(int x) {
            ran(10);
            return reads(x) * 2;
        }

        public int hushes(int x) {
            ran(11);
            return x ^ number;
        }
    }

    private static class Cot extends Clause {
        public int reads(int x) {
            ran(20);
            return super.reads(x) + 3;
        }
    }

    private static class Cry extends Clause {
        public int cries(int x) {
            ran(30);
            return -super.cries(x);
        }
    }

    private static class Nurse extends Cry {
        public int hushes(int x) {
            ran(40);
            return super.hushes(x) * 3;
        }

        public int cries(int x) {
            ran(41);
            return super.cries(x + 1);
        }
    }

    private static class Rattle extends Cot {
        public int tells(int x) {
            ran(50);
            return super.tells(x) ^ 5;
        }
    }

    private static class Tooth extends Nurse {
        public int hushes(int x) {
            ran(60);
            return super.hushes(x) - reads(2);
        }

        public int tells(int x) {
            ran(61);
            return super.tells(x) + 1;
        }
    }

    private static class Twin extends Clause {
        public int reads(int x) {
            ran(70);
            return super.reads(x) * 2;
        }
    }

    private static class Nose extends Twin {
        public int cries(int x) {
            ran(80);
            return super.cries(x) + hushes(2);
        }

        public int reads(int x) {
            ran(81);
            return super.reads(x) - 1;
        }
    }

    private static Clause made(int kind) {
        switch (kind) {
            case 0: return new Clause();
            case 1: return new Cot();
            case 2: return new Cry();
            case 3: return new Nurse();
            case 4: return new Rattle();
            case 5: return new Tooth();
            case 6: return new Twin();
            default: return new Nose();
        }
    }

    int body(int kind) {
        if (!within(kind, 0, 7)) return BAD;
        if (bodies.size() == 50) return FULL;
        bodies.add(kind);
        return bodies.size() - 1;
    }

    int act(int body, int act, int x) {
        trace = new ArrayList<>();
        if (!within(body, 0, bodies.size() - 1) || !within(act, 0, 3)) return 0;
        Clause one = made(bodies.get(body));
        one.number = body;
        trace = one.ran;
        if (act == 0) return one.reads(x);
        if (act == 1) return one.cries(x);
        return act == 2 ? one.hushes(x) : one.tells(x);
    }

    int trace(int i) {
        return within(i, 0, Math.min(24, trace.size()) - 1) ? trace.get(i) : BAD;
    }

    int keep(int shelf, int body) {
        if (!within(shelf, 0, 5) || !within(body, -1, bodies.size() - 1)) return BAD;
        shelves[shelf] = body == -1 ? null : new Body(body);
        return 1;
    }

    int row(int shelf, int sort, int n) {
        if (!within(shelf, 0, 5) || !within(sort, 0, 4) || n > 60) return BAD;
        if (n < 0) return -14;
        shelves[shelf] = new Row(sort, new long[n]);
        return 1;
    }

    private int refusal(int shelf, int i) {
        if (!within(shelf, 0, 5)) return BAD;
        if (shelves[shelf] == null) return -11;
        if (!(shelves[shelf] instanceof Row)) return -12;
        return within(i, 0, elements(shelf).length - 1) ? 0 : -13;
    }

    int put(int shelf, int i, long v) {
        if (refusal(shelf, i) != 0) return refusal(shelf, i);
        int sort = ((Row) shelves[shelf]).sort();
        long kept = sort == 0 ? (byte) v : sort == 1 ? (short) v : sort == 2 ? (int) v : sort == 3 ? v : v != 0 ? 1 : 0;
        elements(shelf)[i] = kept;
        return 1;
    }

    long element(int shelf, int i) {
        return refusal(shelf, i) == 0 ? elements(shelf)[i] : NONE;
    }

    int shift(int shelf, int i, int other, int j, int n) {
        if (!within(shelf, 0, 5) || !within(other, 0, 5)) return BAD;
        if (shelves[shelf] == null || shelves[other] == null) return -11;
        if (!(shelves[shelf] instanceof Row a) || !(shelves[other] instanceof Row b) || a.sort() != b.sort()) return -12;
        if (n < 0 || i < 0 || j < 0 || (long) i + n > a.elements().length || (long) j + n > b.elements().length) return -13;
        long[] before = a.elements().clone();
        for (int k = 0; k < n; k++) b.elements()[j + k] = before[i + k];
        return n;
    }

    int taken(int shelf, int k) {
        if (!within(shelf, 0, 5) || !within(k, 0, 7)) return BAD;
        if (shelves[shelf] == null) return -11;
        if (!(shelves[shelf] instanceof Body held)) return -12;
        int kind = bodies.get(held.number());
        return made(k).getClass().isInstance(made(kind)) ? kind : -12;
    }

    int count(int what) {
        int[] all = {bills.size(), senators.size(), tape.length(), done.size(), bodies.size(), trace.size()};
        return within(what, 0, 5) ? all[what] : BAD;
    }

    // ---- what several calls ask

    private static boolean within(long v, long least, long most) {
        return v >= least && v <= most;
    }

    private static boolean isPart(int part) {
        return part == 0 || part == 1;
    }

    private boolean isBytes(int shelf) {
        return within(shelf, 0, 5) && shelves[shelf] instanceof Row row && row.sort() == 0;
    }

    private long[] elements(int shelf) {
        return ((Row) shelves[shelf]).elements();
    }

    /** The whole parts of a row from a place on, so many at most. */
    private List<long[]> parts(int shelf, int from, int size, int most) {
        long[] elements = elements(shelf);
        List<long[]> all = new ArrayList<>();
        for (long i = from; i + size <= elements.length && all.size() < most; i += size) {
            long[] part = new long[size];
            for (int j = 0; j < size; j++) part[j] = elements[(int) i + j];
            all.add(part);
        }
        return all;
    }
}
