/** "What is answered so changes nothing": twins, one of which is asked more than the other, tell the same. */
public final class RefusalTest {
    private static final int FAR = Integer.MAX_VALUE, FAR_BELOW = Integer.MIN_VALUE;

    private interface Call {
        long to(CradleVeto x);
    }

    public static void main(String[] args) {
        refusedSenate();
        refusedAgendas();
        refusedOrdersAndPacks();
        refusedCauses();
        refusedPower();
        refusedDeeds();
        refusedBodies();
        refusedShelves();
        refusedShifts();
        fullOnes();
        noneOfANewOne();
        whatOnlyAsks();
        Due.end();
    }

    // ---- twins

    /** Some of everything: shelves 0 an agenda, 1 what was heard, 2 a body, 3 shorts, 4 nothing, 5 longs. */
    private static CradleVeto some() {
        CradleVeto x = new CradleVeto();
        x.bill(25);
        x.bill(41);
        x.bill(19);
        x.senator(9, 0);
        x.senator(3, 2);
        x.mend(1, 3, 70);
        x.mend(0, 6, 5);
        x.mend(0, 7, 4);
        x.mend(2, 2, 3);
        x.undo();
        Senates.law(x, "f%7+t-w/2");
        for (int kind : new int[] {5, 0, 7}) x.body(kind);
        Senates.bytes(x, 0, 0, 1, 2, 0, 1, 1);
        Senates.bytes(x, 1, 0, 1, 1, 2, 0, 0);
        x.keep(2, 0);
        x.row(3, 1, 3);
        x.put(3, 1, -7);
        x.row(5, 3, 4);
        x.put(5, 3, Long.MAX_VALUE);
        x.read(11);
        x.image();
        x.read(20);
        x.pass(3);
        x.feed('1');
        x.feed('+');
        x.act(0, 3, 9);
        return x;
    }

    /** As many of all as there may be; on shelf 0 a row of bills. */
    private static CradleVeto full() {
        CradleVeto x = Senates.plain(10, 6);
        for (int i = 1; i <= 41; i++) x.mend(0, 8, i);
        x.undo();
        for (int i = 0; i < 120; i++) x.feed(i % 2 == 0 ? '1' : '+');
        for (int i = 0; i < 50; i++) x.body(i % 8);
        Senates.bytes(x, 0, 2, 2, 2, 3, 3, 3);
        x.act(7, 3, 1);
        return x;
    }

    /** All that can be asked: first what changes nothing, then what was open to be done. */
    private static long told(CradleVeto x) {
        long sum = 1;
        for (int what = 0; what < 10; what++) {
            for (int number = 0; number < (what < 4 ? 10 : what < 6 ? 6 : 1); number++) sum = sum * 31 + x.of(number, what);
        }
        for (int what = 0; what < 6; what++) sum = (sum * 31 + x.count(what)) * 31 + x.led(what);
        for (int i = 0; i < 12; i++) sum = sum * 31 + x.trace(i);
        for (int shelf = 0; shelf < 6; shelf++) {
            sum = sum * 31 + x.taken(shelf, 0);
            for (int i = 0; i < 8; i++) sum = sum * 31 + x.element(shelf, i);
        }
        for (int bs : new int[] {0, 11, 20}) sum = sum * 31 + x.cross(bs);
        return sum * 31 + toldByDeeds(x);
    }

    private static long toldByDeeds(CradleVeto x) {
        long sum = x.feed('7');
        sum = sum * 31 + x.read(11);
        sum = sum * 31 + x.of(0, 9);
        sum = sum * 31 + x.redo();
        sum = sum * 31 + x.of(2, 2);
        sum = sum * 31 + x.undo();
        sum = sum * 31 + x.undo();
        sum = sum * 31 + x.of(0, 8);
        sum = sum * 31 + x.back();
        sum = sum * 31 + x.of(0, 8);
        sum = sum * 31 + x.led(3);
        sum = sum * 31 + x.law();
        sum = sum * 31 + x.cross(11);
        sum = sum * 31 + x.bill(10);
        sum = sum * 31 + x.senator(1, 1);
        sum = sum * 31 + x.body(2);
        return sum * 31 + x.act(1, 1, 5);
    }

    private static void so(String call, long due, Call each) {
        CradleVeto asked = some();
        Due.is(call, each.to(asked), due);
        Due.is(call + " changes nothing: what is told", told(asked), told(some()));
    }

    private static void bad(String call, Call each) {
        so(call, Due.BAD, each);
    }

    private static void none(String call, Call each) {
        so(call, Due.NONE, each);
    }

    // ---- what is refused

    private static void refusedSenate() {
        Due.by("2 to 10: what is answered so changes nothing");
        bad("bill(9)", x -> x.bill(9));
        bad("bill(100)", x -> x.bill(100));
        bad("bills(6, 0, 1)", x -> x.bills(6, 0, 1));
        bad("bills(0, 0, 0)", x -> x.bills(0, 0, 0));
        bad("bills(0, 0, 11)", x -> x.bills(0, 0, 11));
        so("bills(2, 0, 1)", -12, x -> x.bills(2, 0, 1));
        so("bills(3, 0, 1)", -12, x -> x.bills(3, 0, 1));
        so("bills(4, 0, 1)", 0, x -> x.bills(4, 0, 1));
        so("bills(0, -1, 1)", 0, x -> x.bills(0, -1, 1));
        so("bills(0, 0, 1), length 0", 0, x -> x.bills(0, 0, 1));
        so("bills(0, 4, 10), within a three", 0, x -> x.bills(0, 4, 10));
        bad("senator(10, 0)", x -> x.senator(10, 0));
        bad("senator(0, 3)", x -> x.senator(0, 3));
        so("mend(0, 0, 0)", Due.VOID, x -> x.mend(0, 0, 0));
        so("mend(3, 3, 5)", Due.VOID, x -> x.mend(3, 3, 5));
        so("mend(2, 4, 5)", Due.VOID, x -> x.mend(2, 4, 5));
        so("mend(1, 8, 5)", Due.VOID, x -> x.mend(1, 8, 5));
        so("mend(0, 8, 96)", Due.VOID, x -> x.mend(0, 8, 96));
        so("mend(0, 10, 5)", Due.VOID, x -> x.mend(0, 10, 5));
        so("mend(1, 3, 70), the same", 70, x -> x.mend(1, 3, 70));
        so("of(3, 0)", Due.VOID, x -> x.of(3, 0));
        bad("feed(256)", x -> x.feed(256));
        bad("cross(30)", x -> x.cross(30));
        bad("cross(2)", x -> x.cross(2));
        bad("reader(3)", x -> x.reader(3));
    }

    private static void refusedAgendas() {
        Due.by("11 to 13: what is answered so changes nothing");
        for (int shelf : new int[] {-1, 2, 3, 4, 5, 6}) {
            none("passes of " + shelf, x -> x.passes(shelf, 0, 0));
            none("quiet of " + shelf, x -> x.quiet(shelf, 0, 0, 0));
            none("mean of " + shelf, x -> x.mean(shelf, 0, 0));
        }
        none("passes(0, 3, 0)", x -> x.passes(0, 3, 0));
        none("passes(0, 0, 2)", x -> x.passes(0, 0, 2));
        none("quiet(0, 11, 0, 0)", x -> x.quiet(0, 11, 0, 0));
        none("quiet(0, 0, -1, 0)", x -> x.quiet(0, 0, -1, 0));
        none("mean(0, -1, 0)", x -> x.mean(0, -1, 0));
    }

    private static void refusedOrdersAndPacks() {
        Due.by("14 to 16: what is answered so changes nothing");
        bad("order(8, 0, 0)", x -> x.order(8, 0, 0));
        bad("order(1, 2, 0)", x -> x.order(1, 2, 0));
        bad("order(1, 0, -1)", x -> x.order(1, 0, -1));
        so("order(7, 0, 3)", Due.NOT, x -> x.order(7, 0, 3));
        so("order(0, 0, 0)", Due.NOT, x -> x.order(0, 0, 0));
        none("orderWorth(8, 0, 0)", x -> x.orderWorth(8, 0, 0));
        none("orderWorth(1, -1, 0)", x -> x.orderWorth(1, -1, 0));
        bad("pack(61, 0)", x -> x.pack(61, 0));
        bad("pack(5, 2)", x -> x.pack(5, 2));
    }

    private static void refusedCauses() {
        Due.by("17 to 19: what is answered so changes nothing");
        bad("causes(6, 0)", x -> x.causes(6, 0));
        bad("causes(1, 4)", x -> x.causes(1, 4));
        so("causes(4, 0)", -11, x -> x.causes(4, 0));
        so("causes(2, 0)", -12, x -> x.causes(2, 0));
        so("causes(5, 3)", -12, x -> x.causes(5, 3));
        none("cause(4, 0, 0)", x -> x.cause(4, 0, 0));
        none("cause(1, 2, 0)", x -> x.cause(1, 2, 0));
        bad("apart(11, 0)", x -> x.apart(11, 0));
        bad("apart(100, 1)", x -> x.apart(100, 1));
    }

    private static void refusedPower() {
        Due.by("20 to 23: what is answered so changes nothing");
        none("power(3, 0)", x -> x.power(3, 0));
        none("power(0, 2)", x -> x.power(0, 2));
        bad("leagues(2)", x -> x.leagues(2));
        bad("byTurns(30, 1, 0)", x -> x.byTurns(30, 1, 0));
        bad("byTurns(0, 6, 0)", x -> x.byTurns(0, 6, 0));
        bad("drawn(1, 6, 100, -1)", x -> x.drawn(1, 6, 100, -1));
        bad("drawn(1, 0, 113, -1)", x -> x.drawn(1, 0, 113, -1));
        bad("drawn(1, 0, 100, 3)", x -> x.drawn(1, 0, 100, 3));
        so("drawn(1, 4, 100, -1)", -11, x -> x.drawn(1, 4, 100, -1));
        so("drawn(1, 5, 100, -1)", -12, x -> x.drawn(1, 5, 100, -1));
    }

    private static void refusedDeeds() {
        Due.by("24 to 28: what is answered so changes nothing");
        bad("read(30)", x -> x.read(30));
        bad("read(2)", x -> x.read(2));
        bad("read(-1)", x -> x.read(-1));
        bad("born(10, 0)", x -> x.born(10, 0));
        bad("born(0, -1)", x -> x.born(0, -1));
        bad("pass(0)", x -> x.pass(0));
        bad("pass(96)", x -> x.pass(96));
        bad("led(6)", x -> x.led(6));
    }

    private static void refusedBodies() {
        Due.by("33, 35, 36, 41, 42: what is answered so changes nothing");
        bad("body(8)", x -> x.body(8));
        bad("trace(24)", x -> x.trace(24));
        bad("trace(-1)", x -> x.trace(-1));
        bad("keep(2, 3)", x -> x.keep(2, 3));
        bad("keep(0, -2)", x -> x.keep(0, -2));
        bad("keep(6, -1)", x -> x.keep(6, -1));
        bad("taken(2, 8)", x -> x.taken(2, 8));
        so("taken(4, 0)", -11, x -> x.taken(4, 0));
        so("taken(0, 0)", -12, x -> x.taken(0, 0));
        bad("count(6)", x -> x.count(6));
    }

    private static void refusedShelves() {
        Due.by("37 to 39: what is answered so changes nothing");
        bad("row(6, 0, 1)", x -> x.row(6, 0, 1));
        bad("row(0, 5, 1)", x -> x.row(0, 5, 1));
        bad("row(0, 0, 61)", x -> x.row(0, 0, 61));
        so("row(0, 0, -1)", -14, x -> x.row(0, 0, -1));
        so("row(2, 0, -1)", -14, x -> x.row(2, 0, -1));
        so("row(4, 0, -1)", -14, x -> x.row(4, 0, -1));
        bad("put(-1, 0, 9)", x -> x.put(-1, 0, 9));
        so("put(4, 0, 9)", -11, x -> x.put(4, 0, 9));
        so("put(2, 0, 9)", -12, x -> x.put(2, 0, 9));
        so("put(3, 3, 9)", -13, x -> x.put(3, 3, 9));
        so("put(3, -1, 9)", -13, x -> x.put(3, -1, 9));
        none("element(4, 0)", x -> x.element(4, 0));
        none("element(2, 0)", x -> x.element(2, 0));
        none("element(3, 3)", x -> x.element(3, 3));
    }

    private static void refusedShifts() {
        Due.by("40: what is answered so changes nothing");
        bad("shift(0, 0, 6, 0, 1)", x -> x.shift(0, 0, 6, 0, 1));
        so("shift(0, 0, 4, 0, 1)", -11, x -> x.shift(0, 0, 4, 0, 1));
        so("shift(4, 0, 0, 0, 1)", -11, x -> x.shift(4, 0, 0, 0, 1));
        so("shift(0, 0, 3, 0, 1)", -12, x -> x.shift(0, 0, 3, 0, 1));
        so("shift(2, 0, 0, 0, 1)", -12, x -> x.shift(2, 0, 0, 0, 1));
        so("shift(0, 0, 1, 5, 2)", -13, x -> x.shift(0, 0, 1, 5, 2));
        so("shift(0, 5, 1, 0, 2)", -13, x -> x.shift(0, 5, 1, 0, 2));
        so("shift(0, 0, 1, 0, -1)", -13, x -> x.shift(0, 0, 1, 0, -1));
        so("shift(0, 0, 0, 1, 6)", -13, x -> x.shift(0, 0, 0, 1, 6));
        so("shift(0, 0, 1, 0, 0), of none", 0, x -> x.shift(0, 0, 1, 0, 0));
    }

    private static void fullOne(String call, long due, Call each) {
        CradleVeto asked = full();
        Due.is(call, each.to(asked), due);
        Due.is(call + " changes nothing: what is told", told(asked), told(full()));
    }

    private static void fullOnes() {
        Due.by("FULL: what is answered so changes nothing");
        fullOne("bill(99)", Due.FULL, x -> x.bill(99));
        fullOne("bills(0, 0, 2)", 0, x -> x.bills(0, 0, 2));
        fullOne("senator(9, 2)", Due.FULL, x -> x.senator(9, 2));
        fullOne("feed(55)", Due.FULL, x -> x.feed(55));
        fullOne("body(4)", Due.FULL, x -> x.body(4));
        fullOne("order(63, 0, 0)", Due.BAD, x -> x.order(63, 0, 0));
        fullOne("back()", Due.STATE, x -> x.back());
    }

    private static void noneOfANewOne() {
        Due.by("STATE: what is answered so changes nothing");
        Call[] calls = {x -> x.back(), x -> x.undo(), x -> x.redo()};
        for (int i = 0; i < calls.length; i++) {
            CradleVeto asked = new CradleVeto();
            Due.is("call " + i, calls[i].to(asked), Due.STATE);
            Due.is("what is told", told(asked), told(new CradleVeto()));
        }
    }

    // ---- what only asks

    private static void whatOnlyAsks() {
        Due.by("6, 9 to 23, 28, 35, 39, 41, 42: what only asks changes nothing");
        Call[] calls = {x -> x.of(1, 3), x -> x.cross(21), x -> x.reader(2), x -> x.passes(0, 2, 0), x -> x.quiet(0, 3, 1, 1),
            x -> x.mean(0, 3, 0), x -> x.order(7, 1, 2), x -> x.orderWorth(7, 1, 0), x -> x.pack(7, 1), x -> x.causes(1, 0),
            x -> x.causes(1, 3), x -> x.cause(1, 0, 0), x -> x.cause(1, 1, 1), x -> x.apart(29, 0), x -> x.power(2, 0),
            x -> x.leagues(1), x -> x.byTurns(21, 5, 0), x -> x.drawn(FAR, 0, 3012, -1), x -> x.drawn(FAR_BELOW, 0, 505, 2),
            x -> x.led(0), x -> x.trace(3), x -> x.element(5, 3), x -> x.taken(2, 3), x -> x.count(5)};
        for (int i = 0; i < calls.length; i++) {
            CradleVeto asked = some();
            long answer = calls[i].to(asked);
            Due.is("call " + i + " again", calls[i].to(asked), answer);
            Due.is("call " + i + ": what is told", told(asked), told(some()));
        }
    }
}
