import java.util.Arrays;

/** A senate in which whatever is carried goes up to a cot at the end: if the infant cries, it is out. */
public final class CradleVeto {
    public static final int BAD = -1, NOT = -2, FULL = -3, STATE = -5, VOID = -2000000000;

    private static final int NOTHING_THERE = -11, OTHER_KIND = -12, NO_PLACE = -13, SIZE_BELOW_ZERO = -14;
    private static final int SHELVES = 6;
    private static final long NONE = -9223372036854775808L;

    private final House house = new House();
    private final Tape tape = new Tape();
    private final Changes changes = new Changes(house);
    private final Agenda agenda = new Agenda(house);
    private final Orders orders = new Orders(house, agenda);
    private final Causes reasons = new Causes(house);
    private final Nurses nurses = new Nurses(house);
    private final Deeds deeds = new Deeds(house);
    private final Clauses clauses = new Clauses();
    private final Shelf[] shelves = new Shelf[SHELVES];

    public CradleVeto() {
        for (int i = 0; i < SHELVES; i++) shelves[i] = new Shelf();
    }

    // ---- bills, senators, the infant

    public int bill(int ls) {
        if (ls < 10 || ls > 99) return BAD;
        return house.addBill(ls / 10, ls % 10, House.FIRST_WORTH);
    }

    public int bills(int shelf, int i, int n) {
        if (!isShelf(shelf) || n < 1 || n > House.MOST_BILLS) return BAD;
        if (shelves[shelf].isEmpty()) return 0;
        if (shelves[shelf].refusalOfBytes() != 0) return OTHER_KIND;
        int came = 0;
        while (came < n && billComes(shelves[shelf], i + 3 * came)) came++;
        return came;
    }

    public int senator(int rumble, int party) {
        if (!House.may(House.RUMBLE, rumble) || !House.may(House.PARTY, party)) return BAD;
        return house.addSenator(rumble, party);
    }

    public int mend(int number, int what, int v) {
        if (!house.has(number, what) || !House.may(what, v)) return VOID;
        int was = house.get(number, what);
        if (was != v) changes.make(number, what, v);
        return was;
    }

    public int of(int number, int what) {
        return house.has(number, what) ? house.get(number, what) : VOID;
    }

    public int feed(int letter) {
        if (letter < 0 || letter > 255) return BAD;
        return tape.take(letter);
    }

    public int law() {
        int fault = tape.fault();
        if (fault < 0) house.follow(tape);
        tape.clear();
        return fault < 0 ? 1 : -100 - fault;
    }

    public int cross(int bs) {
        return house.isReading(bs) ? house.cryingNow(bs) : BAD;
    }

    public int reader(int bill) {
        if (!house.has(bill, House.LENGTH)) return BAD;
        int best = NOT;
        int fewest = House.TWELVE + 1;
        for (int s = 0; s < house.senatorCount(); s++) {
            int crying = house.cryingNow(10 * bill + s);
            if (crying < fewest) {
                fewest = crying;
                best = s;
            }
        }
        return best;
    }

    // ---- agendas

    public long passes(int shelf, int k, int part) {
        if (!isPart(part) || k < 0 || !takesAgenda(shelf) || k >= agenda.size()) return NONE;
        return partOf(agenda.passing(k), twelves(k + 1), part);
    }

    public long quiet(int shelf, int n, int k, int part) {
        if (!isPart(part) || !isCount(n) || !isCount(k) || !takesAgenda(shelf)) return NONE;
        int read = Math.min(n, agenda.size());
        return partOf(agenda.quietFrom(k, read), twelves(read), part);
    }

    public long mean(int shelf, int n, int part) {
        if (!isPart(part) || !isCount(n) || !takesAgenda(shelf)) return NONE;
        int read = Math.min(n, agenda.size());
        return partOf(agenda.worthOf(read), twelves(read), part);
    }

    public int order(int bills, int senator, int k) {
        if (k < 0 || !orders.mayBe(bills, senator)) return BAD;
        orders.seek(bills, senator);
        return orders.bestAt(k);
    }

    public long orderWorth(int bills, int senator, int part) {
        if (!isPart(part) || !orders.mayBe(bills, senator)) return NONE;
        orders.seek(bills, senator);
        return partOf(orders.most(), twelves(Integer.bitCount(bills)), part);
    }

    public int pack(int quarters, int what) {
        if (quarters < 0 || quarters > 60 || !isPart(what)) return BAD;
        int best = 0;
        for (int set = 1; set < 1 << house.billCount(); set++) {
            if (house.sum(set, House.LENGTH) <= quarters && isBetterPack(set, best)) best = set;
        }
        return what == 0 ? house.sum(best, House.WORTH) : best;
    }

    // ---- why it cried, power

    public int causes(int shelf, int what) {
        if (!isShelf(shelf) || what < 0 || what > 3) return BAD;
        int refusal = shelves[shelf].refusalOfBytes();
        if (refusal != 0) return refusal;
        reasons.weigh(shelves[shelf], what < 2 ? House.TEETH : House.WIND);
        return what % 2 == 0 ? reasons.possible() : reasons.likeliest();
    }

    public long cause(int shelf, int what, int part) {
        if (!isShelf(shelf) || !isPart(what) || !isPart(part)) return NONE;
        if (shelves[shelf].refusalOfBytes() != 0) return NONE;
        reasons.weigh(shelves[shelf], what == 0 ? House.TEETH : House.WIND);
        return partOf(reasons.most(), Math.max(1, reasons.together()), part);
    }

    public int apart(int ab, int what) {
        if (ab < 0 || ab > 99 || ab / 10 == ab % 10 || !isPart(what)) return BAD;
        int which = NOT;
        int most = 0;
        for (int bs = 0; bs < 10 * house.billCount(); bs++) {
            int differ = house.isReading(bs) ? reasons.difference(bs, ab / 10, ab % 10) : 0;
            if (differ > most) {
                most = differ;
                which = bs;
            }
        }
        return which == NOT || what == 0 ? which : most;
    }

    public long power(int one, int part) {
        int all = house.senatorCount();
        if (one < 0 || one > all || !isPart(part)) return NONE;
        if (all == 0) return partOf(0, 1, part);
        int needed = all / 2 + 1;
        // The infant stands behind 0 .. all senators, each alike likely; it carries behind enough of them.
        if (one == all) return partOf(all - needed + 1, all + 1, part);
        return partOf(needed, all * (all + 1), part);
    }

    public int leagues(int what) {
        if (!isPart(what)) return BAD;
        int found = 0;
        int least = NOT;
        for (int set = 1; set < 8; set++) {
            if (!house.isLeague(set)) continue;
            found++;
            if (least == NOT || house.members(set) < house.members(least)) least = set;
        }
        return what == 0 ? found : least;
    }

    public int byTurns(int bs, int n, int what) {
        if (!house.isReading(bs) || n < 1 || n > 5 || !isPart(what)) return BAD;
        nurses.play(bs, n);
        return what == 0 ? nurses.outcome() : nurses.firstMove();
    }

    public int drawn(int seed, int shelf, int nb, int bill) {
        boolean isBill = bill == -1 || house.has(bill, House.LENGTH);
        if (!isShelf(shelf) || !isBill || nb < 100 || nb > 3012 || nb % 100 > House.TWELVE) return BAD;
        int refusal = shelves[shelf].refusalOfBytes();
        if (refusal != 0) return refusal;
        agenda.take(shelves[shelf]);
        return agenda.drawnYears(seed, nb / 100, nb % 100, bill);
    }

    // ---- in deed

    public int read(int bs) {
        return house.isReading(bs) ? deeds.hear(bs) : BAD;
    }

    public int fed() {
        return deeds.nourish();
    }

    public int born(int teeth, int wind) {
        if (!House.may(House.TEETH, teeth) || !House.may(House.WIND, wind)) return BAD;
        return deeds.bringIn(teeth, wind);
    }

    public int pass(int quarters) {
        if (quarters < 1 || quarters > House.LATEST) return BAD;
        return deeds.letPass(quarters);
    }

    public int led(int what) {
        return what < 0 || what >= Deeds.KINDS ? BAD : deeds.done(what);
    }

    public int image() {
        deeds.picture();
        return deeds.done(Deeds.READINGS);
    }

    public int back() {
        return deeds.layBack() ? deeds.done(Deeds.READINGS) : STATE;
    }

    public int undo() {
        return changes.goBack() ? changes.behind() : STATE;
    }

    public int redo() {
        return changes.goOn() ? changes.ahead() : STATE;
    }

    // ---- acts, shelves

    public int body(int kind) {
        if (!Clauses.isKind(kind)) return BAD;
        return clauses.add(kind);
    }

    public int act(int body, int act, int x) {
        return clauses.perform(body, act, x);
    }

    public int trace(int i) {
        return clauses.traceAt(i);
    }

    public int keep(int shelf, int body) {
        if (!isShelf(shelf) || body != -1 && !clauses.has(body)) return BAD;
        if (body == -1) shelves[shelf].clear();
        else shelves[shelf].holdBody(body);
        return 1;
    }

    public int row(int shelf, int sort, int n) {
        if (!isShelf(shelf) || sort < 0 || sort >= Shelf.SORTS || n > Shelf.LONGEST) return BAD;
        if (n < 0) return SIZE_BELOW_ZERO;
        shelves[shelf].holdRow(sort, n);
        return 1;
    }

    public int put(int shelf, int i, long v) {
        int refusal = refusalOfPlace(shelf, i);
        if (refusal != 0) return refusal;
        shelves[shelf].set(i, v);
        return 1;
    }

    public long element(int shelf, int i) {
        return refusalOfPlace(shelf, i) == 0 ? shelves[shelf].get(i) : NONE;
    }

    public int shift(int shelf, int i, int other, int j, int n) {
        if (!isShelf(shelf) || !isShelf(other)) return BAD;
        Shelf from = shelves[shelf];
        Shelf to = shelves[other];
        if (from.isEmpty() || to.isEmpty()) return NOTHING_THERE;
        if (!from.isLike(to)) return OTHER_KIND;
        if (!from.hasPlaces(i, n) || !to.hasPlaces(j, n)) return NO_PLACE;
        to.copy(from, i, j, n);
        return n;
    }

    public int taken(int shelf, int k) {
        if (!isShelf(shelf) || !Clauses.isKind(k)) return BAD;
        if (shelves[shelf].isEmpty()) return NOTHING_THERE;
        int kind = clauses.kindOf(shelves[shelf].heldBody());
        return Clauses.isUnder(kind, k) ? kind : OTHER_KIND;
    }

    public int count(int what) {
        switch (what) {
            case 0: return house.billCount();
            case 1: return house.senatorCount();
            case 2: return tape.length();
            case 3: return changes.behind();
            case 4: return clauses.size();
            case 5: return clauses.ran();
            default: return BAD;
        }
    }

    // ---- what several calls ask

    private boolean isShelf(int shelf) {
        return shelf >= 0 && shelf < SHELVES;
    }

    private static boolean isPart(int part) {
        return part == 0 || part == 1;
    }

    private static boolean isCount(int n) {
        return n >= 0 && n <= Agenda.MOST;
    }

    private boolean takesAgenda(int shelf) {
        if (!isShelf(shelf) || shelves[shelf].refusalOfBytes() != 0) return false;
        agenda.take(shelves[shelf]);
        return true;
    }

    private int refusalOfPlace(int shelf, int i) {
        if (!isShelf(shelf)) return BAD;
        if (shelves[shelf].isEmpty()) return NOTHING_THERE;
        if (!shelves[shelf].isRow()) return OTHER_KIND;
        return shelves[shelf].hasPlaces(i, 1) ? 0 : NO_PLACE;
    }

    private boolean billComes(Shelf row, int i) {
        int length = row.byteAt(i);
        int sharp = row.byteAt(i + 1);
        int worth = row.byteAt(i + 2);
        if (!House.may(House.LENGTH, length) || !House.may(House.SHARP, sharp)) return false;
        return House.may(House.WORTH, worth) && house.addBill(length, sharp, worth) >= 0;
    }

    private boolean isBetterPack(int set, int best) {
        int more = house.sum(set, House.WORTH) - house.sum(best, House.WORTH);
        return more > 0 || more == 0 && Integer.bitCount(set) < Integer.bitCount(best);
    }

    /** What stands below the line behind so many readings. */
    private static long twelves(int readings) {
        long all = 1;
        for (int i = 0; i < readings; i++) all *= House.TWELVE;
        return all;
    }

    private static long partOf(long above, long below, int part) {
        long common = Math.max(1, commonOf(above, below));
        return part == 0 ? above / common : below / common;
    }

    private static long commonOf(long a, long b) {
        long greater = a;
        long less = b;
        // Each two steps halve what is left, so that 64 bits are through long before 200.
        for (int i = 0; i < 200 && less != 0; i++) {
            long rest = greater % less;
            greater = less;
            less = rest;
        }
        return greater;
    }

    /** Every number that mend() knows, and the law: what a reading depends on. */
    private static final class House {
        static final int LENGTH = 0, SHARP = 1, MATTER = 2, WORTH = 3, RUMBLE = 4, PARTY = 5;
        static final int TEETH = 6, WIND = 7, SINCE = 8, SEED = 9;
        static final int MOST_BILLS = 10, MOST_SENATORS = 6, TWELVE = 12, LATEST = 95, FIRST_WORTH = 10;
        private static final int[] LEAST = {1, 0, 0, 0, 0, 0, 0, 0, 0, -2147483648};
        private static final int[] MOST = {9, 9, 3, 99, 9, 2, 9, 9, 95, 2147483647};

        private final Law law = new Law();
        private final int[][] numbers = new int[SEED + 1][MOST_BILLS];
        private int bills;
        private int senators;

        House() {
            numbers[SEED][0] = 1;
        }

        int billCount() {
            return bills;
        }

        int senatorCount() {
            return senators;
        }

        int addBill(int length, int sharp, int worth) {
            if (bills >= MOST_BILLS) return FULL;
            numbers[LENGTH][bills] = length;
            numbers[SHARP][bills] = sharp;
            numbers[WORTH][bills] = worth;
            return bills++;
        }

        int addSenator(int rumble, int party) {
            if (senators >= MOST_SENATORS) return FULL;
            numbers[RUMBLE][senators] = rumble;
            numbers[PARTY][senators] = party;
            return senators++;
        }

        boolean has(int number, int what) {
            if (what < LENGTH || what > SEED || number < 0) return false;
            return number < (what <= WORTH ? bills : what <= PARTY ? senators : 1);
        }

        static boolean may(int what, int v) {
            return what >= LENGTH && what <= SEED && v >= LEAST[what] && v <= MOST[what];
        }

        int get(int number, int what) {
            return has(number, what) ? numbers[what][number] : 0;
        }

        void set(int number, int what, int v) {
            if (has(number, what)) numbers[what][number] = v;
        }

        /** A number of the infant. */
        int its(int what) {
            return get(0, what);
        }

        void follow(Tape tape) {
            law.become(tape);
        }

        boolean isReading(int bs) {
            return bs >= 0 && has(bs / 10, LENGTH) && has(bs % 10, RUMBLE);
        }

        /** 10 times the bill, and the senator; -1 if there are none such. */
        int reading(int bill, int senator) {
            return has(bill, LENGTH) && has(senator, RUMBLE) ? 10 * bill + senator : -1;
        }

        int worth(int bs) {
            return get(bs / 10, WORTH);
        }

        int later(int since, int quarters) {
            return Math.min(LATEST, since + quarters);
        }

        int sinceBehind(int bs, int since) {
            return later(since, get(bs / 10, LENGTH));
        }

        /** In how many of twelve it cries at a reading that begins so many quarters behind a feed. */
        int crying(int bs, int teeth, int wind, int since) {
            int bill = bs / 10;
            int then = later(since, get(bill, LENGTH));
            law.tell(then, teeth, wind, get(bs % 10, RUMBLE), get(bill, SHARP), get(bill, MATTER));
            return Math.max(0, Math.min(TWELVE, law.isWritten() ? law.written() : law.unwritten()));
        }

        int cryingNow(int bs) {
            return crying(bs, its(TEETH), its(WIND), its(SINCE));
        }

        int sum(int set, int what) {
            int all = 0;
            for (int b = 0; b < bills; b++) {
                if ((set >> b & 1) == 1) all += get(b, what);
            }
            return all;
        }

        /** How many senators are of a set of parties. */
        int members(int set) {
            int all = 0;
            for (int s = 0; s < senators; s++) all += set >> get(s, PARTY) & 1;
            return all;
        }

        boolean isLeague(int set) {
            for (int p = 0; p < 3; p++) {
                if ((set >> p & 1) == 1 && members(1 << p) == 0) return false;
            }
            return 2 * members(set) > senators;
        }
    }

    /** The bytes of a text, turned into signs that stand behind what they work on: numbers from 0 up, signs below 0. */
    private static final class Tape {
        static final int MOST = 120, MOST_OPEN = 6;
        static final int COMPARISON = 2, PRODUCT = 4;
        private final int[] bytes = new int[MOST];
        private final int[] code = new int[MOST + 1];
        private int length;
        private int at;
        private int size;

        int length() {
            return length;
        }

        int codeSize() {
            return size;
        }

        int codeAt(int i) {
            return i >= 0 && i < size ? code[i] : 0;
        }

        int take(int letter) {
            if (length >= MOST) return FULL;
            bytes[length] = letter;
            return ++length;
        }

        void clear() {
            length = 0;
        }

        /** The place of the first byte with which no text goes on; -1 for a text. */
        int fault() {
            at = 0;
            size = 0;
            for (int lines = 0; lines <= MOST; lines++) {
                if (!isLine()) return at;
                emit(-';');
                if (next() != ';') break;
                at++;
            }
            return at < length ? at : -1;
        }

        private int next() {
            return at < length ? bytes[at] : -1;
        }

        private void emit(int sign) {
            if (size < code.length) code[size++] = sign;
        }

        private boolean isLine() {
            if (!isExpression(0, 0)) return false;
            if (next() != '?') return true;
            at++;
            emit(-'?');
            return isExpression(0, 0);
        }

        private static int levelOf(int sign) {
            switch (sign) {
                case '|': return 0;
                case '&': return 1;
                case '<': case '=': case '>': return COMPARISON;
                case '+': case '-': return 3;
                case '*': case '/': case '%': return PRODUCT;
                default: return -1;
            }
        }

        private boolean isExpression(int level, int open) {
            if (level > PRODUCT) return isOperand(open);
            if (!isExpression(level + 1, open)) return false;
            while (at < length && levelOf(bytes[at]) == level) {
                int sign = bytes[at];
                at++;
                if (!isExpression(level + 1, open)) return false;
                emit(-sign);
                // A comparison has two sides alone: another sign of its kind is left, and is the fault.
                if (level == COMPARISON) return true;
            }
            return true;
        }

        private boolean isOperand(int open) {
            int sign = next();
            if (isDigit(sign)) return isNumber();
            if (Law.nameOf(sign) >= 0) {
                emit(-1 - Law.nameOf(sign));
                at++;
                return true;
            }
            if (open >= MOST_OPEN || sign != '(' && sign != '!' && sign != '-') return false;
            at++;
            return sign == '(' ? isEnclosed(open + 1) : isSigned(sign, open + 1);
        }

        private boolean isEnclosed(int open) {
            if (!isExpression(0, open) || next() != ')') return false;
            at++;
            return true;
        }

        private boolean isSigned(int sign, int open) {
            if (!isOperand(open)) return false;
            emit(sign == '!' ? -'!' : -'~');
            return true;
        }

        private static boolean isDigit(int sign) {
            return sign >= '0' && sign <= '9';
        }

        private boolean isNumber() {
            int value = 0;
            for (int digits = 0; digits < 4 && isDigit(next()); digits++) {
                value = 10 * value + next() - '0';
                at++;
            }
            emit(value);
            return true;
        }
    }

    /** The law: in how many of twelve it cries. */
    private static final class Law {
        private final int[] code = new int[Tape.MOST + 1];
        private final int[] named = new int[6];
        // Each of 7 levels of open signs has one side of 5 signs waiting at most, and the latest has both.
        private final int[] stack = new int[64];
        private int size;

        static int nameOf(int letter) {
            switch (letter) {
                case 'f': return 0;
                case 't': return 1;
                case 'w': return 2;
                case 'r': return 3;
                case 's': return 4;
                case 'm': return 5;
                default: return -1;
            }
        }

        void become(Tape tape) {
            size = Math.min(tape.codeSize(), code.length);
            for (int i = 0; i < size; i++) code[i] = tape.codeAt(i);
        }

        void tell(int f, int t, int w, int r, int s, int m) {
            named[0] = f;
            named[1] = t;
            named[2] = w;
            named[3] = r;
            named[4] = s;
            named[5] = m;
        }

        boolean isWritten() {
            return size > 0;
        }

        int unwritten() {
            return named[0] / 4 + named[1] / 3 + named[2] / 3 + named[3] / 3 + named[4] / 3 - 2;
        }

        int written() {
            int top = 0;
            for (int i = 0; i < size && top < stack.length; i++) {
                int sign = -code[i];
                if (sign <= 0) {
                    stack[top++] = code[i];
                } else if (sign <= named.length) {
                    stack[top++] = named[sign - 1];
                } else if (top < 1) {
                    return 0;
                } else if (sign == ';') {
                    return stack[top - 1];
                } else if (sign == '?') {
                    top--;
                    if (stack[top] == 0) i = endOfLine(i);
                } else if (sign == '!') {
                    stack[top - 1] = stack[top - 1] == 0 ? 1 : 0;
                } else if (sign == '~') {
                    stack[top - 1] = -stack[top - 1];
                } else if (top < 2) {
                    return 0;
                } else {
                    top--;
                    stack[top - 1] = worked(sign, stack[top - 1], stack[top]);
                }
            }
            return 0;
        }

        private int endOfLine(int from) {
            int i = from;
            while (i < size && code[i] != -';') i++;
            return i;
        }

        private static int worked(int sign, int a, int b) {
            switch (sign) {
                case '|': return a != 0 || b != 0 ? 1 : 0;
                case '&': return a != 0 && b != 0 ? 1 : 0;
                case '<': return a < b ? 1 : 0;
                case '=': return a == b ? 1 : 0;
                case '>': return a > b ? 1 : 0;
                case '+': return a + b;
                case '-': return a - b;
                case '*': return a * b;
                case '/': return b == 0 ? 0 : a / b;
                default: return b == 0 ? 0 : a % b;
            }
        }
    }

    /** Changes of numbers: those made, and behind them those that were undone. */
    private static final class Changes {
        static final int MOST = 40;
        private final House house;
        private final int[] numbers = new int[MOST];
        private final int[] whats = new int[MOST];
        private final int[] olds = new int[MOST];
        private final int[] news = new int[MOST];
        private int made;
        private int all;

        Changes(House house) {
            this.house = house;
        }

        int behind() {
            return made;
        }

        int ahead() {
            return all - made;
        }

        void make(int number, int what, int v) {
            if (made >= MOST) forgetFirst();
            numbers[made] = number;
            whats[made] = what;
            olds[made] = house.get(number, what);
            news[made] = v;
            made++;
            all = made;
            house.set(number, what, v);
        }

        private void forgetFirst() {
            made = MOST - 1;
            System.arraycopy(numbers, 1, numbers, 0, made);
            System.arraycopy(whats, 1, whats, 0, made);
            System.arraycopy(olds, 1, olds, 0, made);
            System.arraycopy(news, 1, news, 0, made);
        }

        boolean goBack() {
            if (made <= 0) return false;
            made--;
            house.set(numbers[made], whats[made], olds[made]);
            return true;
        }

        boolean goOn() {
            if (made >= all) return false;
            house.set(numbers[made], whats[made], news[made]);
            made++;
            return true;
        }
    }

    /** Readings one behind the other from now. */
    private static final class Agenda {
        static final int MOST = 10;
        private final House house;
        private final int[] readings = new int[MOST];
        // By how many readings it has heard up to its latest cry: how likely that is (in twelfths of each
        // reading, all multiplied), and its hour then.
        private final long[] weights = new long[MOST + 1];
        private final int[] hours = new int[MOST + 1];
        private int size;

        Agenda(House house) {
            this.house = house;
        }

        int size() {
            return size;
        }

        void take(Shelf row) {
            size = 0;
            for (int i = 0; i < MOST; i++) {
                int bs = house.reading(row.byteAt(2 * i), row.byteAt(2 * i + 1));
                if (bs < 0) return;
                readings[size++] = bs;
            }
        }

        void tell(int i, int bs) {
            if (i < 0 || i >= MOST) return;
            readings[i] = bs;
            size = i + 1;
        }

        private void begin() {
            Arrays.fill(weights, 0);
            weights[0] = 1;
            hours[0] = house.its(House.SINCE);
        }

        /** The weight with which the j-th passes; what cried there goes on, unless it is left out. */
        private long step(int j, boolean criesGoOn) {
            if (j < 0 || j >= size) return 0;
            long passed = 0;
            long cried = 0;
            for (int c = 0; c <= j; c++) {
                if (weights[c] == 0) continue;
                int crying = house.crying(readings[j], house.its(House.TEETH), house.its(House.WIND), hours[c]);
                cried += weights[c] * crying;
                weights[c] *= House.TWELVE - crying;
                passed += weights[c];
                hours[c] = house.sinceBehind(readings[j], hours[c]);
            }
            weights[j + 1] = criesGoOn ? cried : 0;
            hours[j + 1] = 0;
            return passed;
        }

        long passing(int k) {
            begin();
            long passed = 0;
            for (int j = 0; j <= k; j++) passed = step(j, true);
            return passed;
        }

        long quietFrom(int k, int n) {
            begin();
            for (int j = 0; j < n; j++) step(j, j < k);
            long left = 0;
            for (int c = 0; c < weights.length; c++) left += weights[c];
            return left;
        }

        long worthOf(int n) {
            begin();
            long worth = 0;
            for (int j = 0; j < n && j < size; j++) {
                worth = worth * House.TWELVE + step(j, true) * house.worth(readings[j]);
            }
            return worth;
        }

        /** Years by draws: worth that passes, or how often a told bill does. */
        int drawnYears(int seed, int years, int births, int bill) {
            int z = seed;
            int found = 0;
            for (int year = 0; year < years; year++) {
                int teeth = house.its(House.TEETH);
                int wind = house.its(House.WIND);
                int since = house.its(House.SINCE);
                for (int j = 0; j < size; j++) {
                    z = Deeds.drawBehind(z);
                    if ((z >>> 16) % House.TWELVE < births) {
                        teeth = 0;
                        wind = (z >>> 20) % 4;
                        since = 0;
                    }
                    boolean cries = Deeds.cries(z, house.crying(readings[j], teeth, wind, since));
                    since = cries ? 0 : house.sinceBehind(readings[j], since);
                    if (!cries) found += gain(readings[j], bill);
                }
            }
            return found;
        }

        private int gain(int bs, int bill) {
            if (bill < 0) return house.worth(bs);
            return bs / 10 == bill ? 1 : 0;
        }
    }

    /** The order of told bills of which most worth passes in the mean. */
    private static final class Orders {
        static final int MOST = 5, ALL = 120;
        private final House house;
        private final Agenda agenda;
        private final int[] now = new int[MOST];
        private final int[] best = new int[MOST];
        private int size;
        private long most;

        Orders(House house, Agenda agenda) {
            this.house = house;
            this.agenda = agenda;
        }

        boolean mayBe(int bills, int senator) {
            if (bills < 0 || bills >= 1 << house.billCount()) return false;
            return Integer.bitCount(bills) <= MOST && house.has(senator, House.RUMBLE);
        }

        long most() {
            return most;
        }

        int bestAt(int k) {
            return k >= 0 && k < size ? best[k] : NOT;
        }

        /** All orders come by their numbers, so that the first one of like ones stays. */
        void seek(int bills, int senator) {
            first(bills);
            most = -1;
            boolean another = true;
            for (int i = 0; i < ALL && another; i++) {
                for (int k = 0; k < size; k++) agenda.tell(k, 10 * now[k] + senator);
                long worth = agenda.worthOf(size);
                if (worth > most) {
                    most = worth;
                    System.arraycopy(now, 0, best, 0, size);
                }
                another = goOn();
            }
        }

        private void first(int bills) {
            size = 0;
            for (int b = 0; b < House.MOST_BILLS && size < MOST; b++) {
                if ((bills >> b & 1) == 1) now[size++] = b;
            }
        }

        /** The next order by numbers; false behind the last. */
        private boolean goOn() {
            int i = size - 2;
            while (i >= 0 && now[i] > now[i + 1]) i--;
            if (i < 0) return false;
            int j = size - 1;
            while (j > i && now[j] < now[i]) j--;
            swap(i, j);
            int left = i + 1;
            int right = size - 1;
            while (left < right) swap(left++, right--);
            return true;
        }

        private void swap(int i, int j) {
            int kept = now[i];
            now[i] = now[j];
            now[j] = kept;
        }
    }

    /** Why it cried: how likely what was heard is by each teeth, or each wind. */
    private static final class Causes {
        static final int VALUES = 10, MOST_THREES = 8;
        private final House house;
        private final long[] likely = new long[VALUES];

        Causes(House house) {
            this.house = house;
        }

        void weigh(Shelf row, int what) {
            for (int v = 0; v < VALUES; v++) {
                int teeth = what == House.TEETH ? v : house.its(House.TEETH);
                int wind = what == House.WIND ? v : house.its(House.WIND);
                likely[v] = weight(row, teeth, wind);
            }
        }

        private long weight(Shelf row, int teeth, int wind) {
            long weight = 1;
            int since = house.its(House.SINCE);
            for (int i = 0; i < MOST_THREES; i++) {
                int bs = house.reading(row.byteAt(3 * i), row.byteAt(3 * i + 1));
                int cried = row.byteAt(3 * i + 2);
                if (bs < 0 || cried < 0 || cried > 1) break;
                int crying = house.crying(bs, teeth, wind, since);
                weight *= cried == 1 ? crying : House.TWELVE - crying;
                since = cried == 1 ? 0 : house.sinceBehind(bs, since);
            }
            return weight;
        }

        int possible() {
            int set = 0;
            for (int v = 0; v < VALUES; v++) {
                if (likely[v] > 0) set |= 1 << v;
            }
            return set;
        }

        int likeliest() {
            int best = NOT;
            long most = 0;
            for (int v = 0; v < VALUES; v++) {
                if (likely[v] > most) {
                    most = likely[v];
                    best = v;
                }
            }
            return best;
        }

        long most() {
            int best = likeliest();
            return best == NOT ? 0 : likely[best];
        }

        long together() {
            long all = 0;
            for (int v = 0; v < VALUES; v++) all += likely[v];
            return all;
        }

        /** How unlike two teeth are at a reading next. */
        int difference(int bs, int one, int other) {
            int wind = house.its(House.WIND);
            int since = house.its(House.SINCE);
            return Math.abs(house.crying(bs, one, wind, since) - house.crying(bs, other, wind, since));
        }
    }

    /** Two nurses by turns: the first one wants fewest of twelve, the other one most. */
    private static final class Nurses {
        static final int WINDS = 10, MORE = 0, LESS = 1, LETS_BE = 2, STEP = 2;
        private final House house;
        private final int[] ends = new int[WINDS];
        private final int[] before = new int[WINDS];
        private int outcome;
        private int firstMove;

        Nurses(House house) {
            this.house = house;
        }

        int outcome() {
            return outcome;
        }

        int firstMove() {
            return firstMove;
        }

        /** From the last turn to the first: of each wind, what it comes to in the end. */
        void play(int bs, int n) {
            for (int w = 0; w < WINDS; w++) {
                ends[w] = house.crying(bs, house.its(House.TEETH), w, house.its(House.SINCE));
            }
            for (int turn = n - 1; turn > 0; turn--) {
                for (int w = 0; w < WINDS; w++) before[w] = end(w, choice(w, turn % 2 == 0));
                System.arraycopy(before, 0, ends, 0, WINDS);
            }
            firstMove = choice(house.its(House.WIND), true);
            outcome = end(house.its(House.WIND), firstMove);
        }

        private int choice(int wind, boolean wantsFewest) {
            int best = LETS_BE;
            for (int move = MORE; move <= LESS; move++) {
                int more = end(wind, move) - end(wind, best);
                if (wantsFewest ? more < 0 : more > 0) best = move;
            }
            return best;
        }

        private int end(int wind, int move) {
            int then = wind + (move == MORE ? STEP : move == LESS ? -STEP : 0);
            return ends[Math.max(0, Math.min(WINDS - 1, then))];
        }
    }

    /** What happens in deed to the infant, and what is led of it. */
    private static final class Deeds {
        static final int READINGS = 0, CRIES = 1, PASSED = 2, WORTH_PASSED = 3, FEEDS = 4, BIRTHS = 5, KINDS = 6;
        private final House house;
        private final int[] led = new int[KINDS];
        private final int[] ledThen = new int[KINDS];
        private final int[] infantThen = new int[House.SEED - House.TEETH + 1];
        private boolean pictured;

        Deeds(House house) {
            this.house = house;
        }

        static int drawBehind(int z) {
            return z * 1103515245 + 12345;
        }

        static boolean cries(int z, int twelfths) {
            return (z >>> 8) % House.TWELVE < twelfths;
        }

        int done(int what) {
            return what >= 0 && what < KINDS ? led[what] : 0;
        }

        int hear(int bs) {
            int z = drawBehind(house.its(House.SEED));
            boolean cries = cries(z, house.cryingNow(bs));
            int since = house.sinceBehind(bs, house.its(House.SINCE));
            house.set(0, House.SEED, z);
            house.set(0, House.SINCE, cries ? 0 : since);
            led[READINGS]++;
            if (cries) {
                led[CRIES]++;
                led[FEEDS]++;
            } else {
                led[PASSED]++;
                led[WORTH_PASSED] += house.worth(bs);
            }
            return cries ? 0 : 1;
        }

        int nourish() {
            int was = house.its(House.SINCE);
            house.set(0, House.SINCE, 0);
            led[FEEDS]++;
            return was;
        }

        int bringIn(int teeth, int wind) {
            house.set(0, House.TEETH, teeth);
            house.set(0, House.WIND, wind);
            house.set(0, House.SINCE, 0);
            led[BIRTHS]++;
            return wind;
        }

        int letPass(int quarters) {
            house.set(0, House.SINCE, house.later(house.its(House.SINCE), quarters));
            return house.its(House.SINCE);
        }

        void picture() {
            for (int i = 0; i < infantThen.length; i++) infantThen[i] = house.its(House.TEETH + i);
            System.arraycopy(led, 0, ledThen, 0, KINDS);
            pictured = true;
        }

        boolean layBack() {
            if (!pictured) return false;
            for (int i = 0; i < infantThen.length; i++) house.set(0, House.TEETH + i, infantThen[i]);
            System.arraycopy(ledThen, 0, led, 0, KINDS);
            return true;
        }
    }

    /** Bodies by number, and their acts, of which some come from kinds above. */
    private static final class Clauses {
        static final int MOST = 50, KINDS = 8, ACTS = 4, MOST_TRACED = 24, DEEPEST = 40;
        static final int READS = 0, CRIES = 1, HUSHES = 2;
        private static final int[] ABOVE = {-1, 0, 0, 2, 1, 3, 0, 6};
        // By kinds, of each its reads, cries, hushes, tells; 0: it has none of its own.
        private static final int[] OWN = {
            1, 10, 11, 2,
            20, 0, 0, 0,
            0, 30, 0, 0,
            0, 41, 40, 0,
            0, 0, 0, 50,
            0, 0, 60, 61,
            70, 0, 0, 0,
            81, 80, 0, 0};
        private final int[] kinds = new int[MOST];
        private final int[] traced = new int[MOST_TRACED];
        private int size;
        private int ran;
        private int actor;
        private int actorKind;

        static boolean isKind(int kind) {
            return kind >= 0 && kind < KINDS;
        }

        static boolean isUnder(int kind, int other) {
            int k = kind;
            for (int i = 0; i < KINDS && isKind(k); i++) {
                if (k == other) return true;
                k = ABOVE[k];
            }
            return false;
        }

        int size() {
            return size;
        }

        int ran() {
            return ran;
        }

        boolean has(int body) {
            return body >= 0 && body < size;
        }

        /** -1: no such body. */
        int kindOf(int body) {
            return has(body) ? kinds[body] : -1;
        }

        int add(int kind) {
            if (size >= MOST) return FULL;
            kinds[size] = kind;
            return size++;
        }

        int traceAt(int i) {
            return i >= 0 && i < MOST_TRACED && i < ran ? traced[i] : BAD;
        }

        int perform(int body, int act, int x) {
            ran = 0;
            if (!has(body) || act < 0 || act >= ACTS) return 0;
            actor = body;
            actorKind = kinds[body];
            return run(actorKind, act, x, 0);
        }

        private static int holder(int from, int act) {
            int kind = from;
            for (int i = 0; i < KINDS && isKind(kind); i++) {
                if (OWN[ACTS * kind + act] != 0) return kind;
                kind = ABOVE[kind];
            }
            return -1;
        }

        private void note(int body) {
            if (ran < MOST_TRACED) traced[ran] = body;
            ran++;
        }

        private int run(int from, int act, int x, int depth) {
            int kind = holder(from, act);
            if (kind < 0 || depth > DEEPEST) return 0;
            int body = OWN[ACTS * kind + act];
            int up = ABOVE[kind];
            int deeper = depth + 1;
            note(body);
            switch (body) {
                case 1: return x + actor;
                case 2: return run(actorKind, CRIES, x, deeper) - run(actorKind, HUSHES, 1, deeper);
                case 10: return run(actorKind, READS, x, deeper) * 2;
                case 11: return x ^ actor;
                case 20: return run(up, act, x, deeper) + 3;
                case 30: return -run(up, act, x, deeper);
                case 40: return run(up, act, x, deeper) * 3;
                case 41: return run(up, act, x + 1, deeper);
                case 50: return run(up, act, x, deeper) ^ 5;
                case 60: return run(up, act, x, deeper) - run(actorKind, READS, 2, deeper);
                case 61: return run(up, act, x, deeper) + 1;
                case 70: return run(up, act, x, deeper) * 2;
                case 80: return run(up, act, x, deeper) + run(actorKind, HUSHES, 2, deeper);
                default: return run(up, act, x, deeper) - 1;
            }
        }
    }

    /** A place for nothing, a body, or a row; a row keeps its elements as longs, cut to its sort. */
    private static final class Shelf {
        static final int LONGEST = 60, SORTS = 5, BYTES = 0, SHORTS = 1, INTS = 2, LONGS = 3;
        private static final int NOTHING = 0, BODY = 1, ROW = 2;
        private final long[] elements = new long[LONGEST];
        private int holds = NOTHING;
        private int body;
        private int sort;
        private int length;

        boolean isEmpty() {
            return holds == NOTHING;
        }

        boolean isRow() {
            return holds == ROW;
        }

        boolean isLike(Shelf other) {
            return isRow() && other.isRow() && sort == other.sort;
        }

        /** 0 for a row of bytes. */
        int refusalOfBytes() {
            if (holds == NOTHING) return NOTHING_THERE;
            return holds == ROW && sort == BYTES ? 0 : OTHER_KIND;
        }

        /** -1: it holds none. */
        int heldBody() {
            return holds == BODY ? body : -1;
        }

        void clear() {
            holds = NOTHING;
        }

        void holdBody(int number) {
            holds = BODY;
            body = number;
        }

        void holdRow(int ofSort, int n) {
            holds = ROW;
            sort = ofSort;
            length = Math.max(0, Math.min(LONGEST, n));
            Arrays.fill(elements, 0);
        }

        boolean hasPlaces(int i, int n) {
            return isRow() && i >= 0 && n >= 0 && i <= length && n <= length - i;
        }

        void set(int i, long v) {
            if (hasPlaces(i, 1)) elements[i] = cut(v);
        }

        long get(int i) {
            return hasPlaces(i, 1) ? elements[i] : NONE;
        }

        /** An element of a row of bytes; -1, which is no number of anything, where there is none. */
        int byteAt(int i) {
            return sort == BYTES && hasPlaces(i, 1) ? (int) elements[i] : -1;
        }

        void copy(Shelf from, int i, int j, int n) {
            if (from.hasPlaces(i, n) && hasPlaces(j, n)) System.arraycopy(from.elements, i, elements, j, n);
        }

        private long cut(long v) {
            switch (sort) {
                case BYTES: return (byte) v;
                case SHORTS: return (short) v;
                case INTS: return (int) v;
                case LONGS: return v;
                default: return v != 0 ? 1 : 0;
            }
        }
    }
}
