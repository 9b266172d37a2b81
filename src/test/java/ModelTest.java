import java.lang.reflect.Method;
import java.util.ArrayList;
import java.util.HashMap;
import java.util.List;
import java.util.Map;
import java.util.Random;

/** Runs by chance of all calls: the class answers as the model does, that tells the document once more. */
public final class ModelTest {
    private static final int CALLS = 512, RUNS = 400;
    /** A call each, as often as it stands here, and what it is asked with: from .. to, or a name of made(..). */
    private static final String[] FACE = {
        "bill 10..99", "bills 0..5 0..9 1..10", "senator 0..9 0..2", "mend", "mend", "mend", "of", "feed sign", "law",
        "cross bs", "reader bill", "passes 0..5 0..9 0..1", "quiet 0..5 0..10 0..10 0..1", "mean 0..5 0..10 0..1",
        "order set senator 0..5", "orderWorth set senator 0..1", "pack 0..60 0..1", "pack 0..20 0..1",
        "causes 0..5 0..3", "causes 0..5 0..3", "cause 0..5 0..1 0..1", "apart 0..99 0..1", "power senators 0..1",
        "leagues 0..1", "byTurns bs 1..5 0..1", "byTurns bs 1..5 0..1", "drawn any 0..5 nb bill",
        "drawn any 0..5 nb all", "read bs", "read bs", "fed", "born 0..9 0..9", "pass 1..12", "pass 1..95", "led 0..5",
        "image", "back", "undo", "undo", "redo", "redo", "body 0..7", "act body 0..3 any", "act body 0..3 0..9",
        "trace 0..11", "keep 0..5 kept", "row 0..5 0..4 0..60", "put 0..5 0..20 long", "put 0..5 0..20 0..9",
        "element 0..5 0..20", "shift 0..5 0..20 0..5 0..20 0..12", "taken 0..5 0..7", "count 0..5"};
    private static final int[] MOST = {9, 9, 3, 99, 9, 2, 9, 9, 95};
    private static final int[] FAR = {-1, -2, -11, 5, 6, 10, 11, 12, 24, 50, 60, 61, 95, 96, 99, 100, 128, 255, 256, 1023,
        1024, 3012, 3013, 1000000, -2000000000, Integer.MAX_VALUE, Integer.MAX_VALUE - 1, Integer.MIN_VALUE};
    private static final String SIGNS = "ftwrsm0123456789()!-+*/%|&<=>?; ";
    private static final Map<String, Method> ONE = methods(CradleVeto.class);
    private static final Map<String, Method> OTHER = methods(Model.class);

    private final Random random;
    private final CradleVeto x = new CradleVeto();
    private final Model model = new Model();
    private final int run;
    private final boolean isTame;
    private int calls;

    private ModelTest(int run) {
        this.run = run;
        random = new Random(run);
        // Where each call may be wrong, few come far: every other run is told hardly anything wrong.
        isTame = run % 2 == 0;
    }

    public static void main(String[] args) throws ReflectiveOperationException {
        Due.by("1 to 42: as the model has it");
        for (int run = 0; run < RUNS; run++) new ModelTest(run).goOn();
        faultsOfTexts();
        Due.end();
    }

    private static Map<String, Method> methods(Class<?> one) {
        Map<String, Method> all = new HashMap<>();
        for (Method each : CradleVeto.class.getDeclaredMethods()) {
            if (!java.lang.reflect.Modifier.isPublic(each.getModifiers())) continue;
            try {
                all.put(each.getName(), one.getDeclaredMethod(each.getName(), each.getParameterTypes()));
            } catch (NoSuchMethodException missing) {
                Due.so(one + " has " + each.getName(), false);
            }
        }
        return all;
    }

    private void goOn() throws ReflectiveOperationException {
        int bills = random.nextInt(11);
        int senators = random.nextInt(7);
        for (int b = 0; b < bills; b++) ask("bill", 10 + random.nextInt(90));
        for (int s = 0; s < senators; s++) ask("senator", random.nextInt(10), random.nextInt(3));
        int end = 200 + random.nextInt(200);
        while (calls < end) {
            int sort = random.nextInt(40);
            if (sort == 0) law(text(random));
            else if (sort == 1) row(2, random.nextInt(25), model.count(0), model.count(1));
            else if (sort == 2) row(3, random.nextInt(27), model.count(0), model.count(1), 2);
            else if (sort == 3) newBills();
            else if (sort == 4) shifted();
            else if (sort == 5 && run % 8 == 3) manyChanges();
            else if (sort == 5 && run % 8 == 5) manyBodies();
            else any(FACE[random.nextInt(FACE.length)].split(" "));
        }
    }

    private void ask(String call, Object... told) throws ReflectiveOperationException {
        if (calls == CALLS) return;
        calls++;
        Class<?>[] types = ONE.get(call).getParameterTypes();
        for (int i = 0; i < told.length; i++) {
            long v = ((Number) told[i]).longValue();
            if (types[i] == long.class) told[i] = v;
            else told[i] = (int) v;
        }
        long got = ((Number) ONE.get(call).invoke(x, told)).longValue();
        long due = ((Number) OTHER.get(call).invoke(model, told)).longValue();
        Due.is("run " + run + ", call " + calls + ", " + call + List.of(told), got, due);
    }

    private void law(String text) throws ReflectiveOperationException {
        for (int i = 0; i < text.length(); i++) ask("feed", (int) text.charAt(i));
        ask("law");
    }

    /** A row of bytes, each place within what it counts, by turns; now and then one is not. */
    private void row(int size, int n, int... counts) throws ReflectiveOperationException {
        int shelf = random.nextInt(6);
        ask("row", shelf, 0, n);
        for (int i = 0; i < n; i++) {
            int most = i % size < counts.length ? Math.max(1, counts[i % size]) : 2;
            ask("put", shelf, i, random.nextInt(40) == 0 ? random.nextInt(14) - 2 : random.nextInt(most));
        }
    }

    private void newBills() throws ReflectiveOperationException {
        int shelf = random.nextInt(6);
        int n = random.nextInt(20);
        ask("row", shelf, 0, n);
        for (int i = 0; i < n; i++) {
            int v = i % 3 == 0 ? 1 + random.nextInt(9) : random.nextInt(i % 3 == 1 ? 10 : 100);
            ask("put", shelf, i, random.nextInt(30) == 0 ? random.nextInt(400) - 100 : v);
        }
        ask("bills", shelf, random.nextInt(4), 1 + random.nextInt(10));
    }

    /** Two rows of one sort, or one alone: what has come where. */
    private void shifted() throws ReflectiveOperationException {
        int from = random.nextInt(6);
        int to = random.nextInt(3) == 0 ? from : random.nextInt(6);
        int sort = random.nextInt(5);
        int n = random.nextInt(14);
        for (int shelf : new int[] {from, to}) {
            ask("row", shelf, sort, n);
            for (int i = 0; i < n; i++) ask("put", shelf, i, random.nextInt(4) == 0 ? 0 : made("long"));
        }
        ask("shift", from, within(0, n / 2), to, within(0, n / 2), within(0, n - n / 2));
        for (int i = 0; i < n; i++) ask("element", to, i);
        for (int i = 0; i < n; i++) ask("element", from, i);
    }

    /** More changes than are kept, all of them undone, and all done again, each number asked. */
    private void manyChanges() throws ReflectiveOperationException {
        for (int i = random.nextInt(60); i > 0; i--) number("mend");
        for (String call : new String[] {"undo", "redo"}) {
            for (int i = random.nextInt(45); i > 0; i--) {
                ask(call);
                number("of");
            }
        }
        ask("count", 3);
        for (int what = 6; what < 10; what++) ask("of", 0, what);
    }

    private void manyBodies() throws ReflectiveOperationException {
        for (int i = random.nextInt(60); i > 0; i--) ask("body", random.nextInt(8));
        ask("count", 4);
        any(new String[] {"act", "body", "0..3", "any"});
    }

    private void any(String[] call) throws ReflectiveOperationException {
        if (call[0].equals("mend") || call[0].equals("of")) {
            number(call[0]);
            return;
        }
        Object[] told = new Object[call.length - 1];
        for (int i = 0; i < told.length; i++) told[i] = made(call[i + 1]);
        ask(call[0], told);
        if (!call[0].equals("act")) return;
        ask("count", 5);
        for (int i = 0; i < 11; i++) ask("trace", i);
    }

    private void number(String call) throws ReflectiveOperationException {
        int what = (int) within(0, 9);
        int most = what < 0 || what > 8 ? 0 : MOST[what];
        long number = within(0, what < 4 ? model.count(0) - 1 : what < 6 ? model.count(1) - 1 : 0);
        if (call.equals("of")) ask("of", number, what);
        else ask("mend", number, what, what == 9 ? random.nextInt() : within(0, most));
    }

    private long within(int least, int most) {
        int way = random.nextInt(isTame ? 400 : 30);
        if (way == 0) return FAR[random.nextInt(FAR.length)];
        if (way == 1) return random.nextBoolean() ? least - 1 : most + 1;
        return least + random.nextInt(Math.max(1, most - least + 1));
    }

    private long made(String name) {
        int bill = model.count(0) - 1;
        int senator = model.count(1) - 1;
        switch (name) {
            case "bill": return within(0, bill);
            case "senator": return within(0, senator);
            case "senators": return within(0, senator + 1);
            case "bs": return 10 * (within(0, bill) % 1000) + within(0, senator) % 1000;
            case "all": return -1;
            case "body": return within(0, model.count(4) - 1);
            case "kept": return within(-1, model.count(4) - 1);
            case "set": return set(bill);
            case "nb": return 100 * (within(1, 30) % 1000) + within(0, 12) % 1000;
            case "sign": return random.nextInt(3) == 0 ? within(0, 255) : SIGNS.charAt(random.nextInt(SIGNS.length()));
            case "any": return random.nextInt();
            case "long": return random.nextLong() >> random.nextInt(64);
            default:
                int dots = name.indexOf("..");
                return within(Integer.parseInt(name.substring(0, dots)), Integer.parseInt(name.substring(dots + 2)));
        }
    }

    private long set(int bill) {
        if (random.nextInt(20) == 0) return within(0, 1023);
        long set = 0;
        for (int i = random.nextInt(6); i > 0; i--) set |= 1L << within(0, bill);
        return set;
    }

    // ---- texts by chance

    private static String text(Random random) {
        StringBuilder text = new StringBuilder();
        for (int lines = 1 + random.nextInt(3); lines > 0; lines--) {
            if (random.nextBoolean()) text.append(e(random, 0, 0)).append('?');
            text.append(e(random, 0, 0));
            if (lines > 1) text.append(';');
        }
        for (int changes = Math.max(0, random.nextInt(5) - 2); changes > 0; changes--) change(random, text);
        return text.substring(0, Math.min(121, text.length()));
    }

    private static void change(Random random, StringBuilder text) {
        int at = random.nextInt(text.length() + 1);
        char sign = SIGNS.charAt(random.nextInt(SIGNS.length()));
        int way = random.nextInt(3);
        if (way == 0 || at == text.length()) text.insert(at, sign);
        else if (way == 1) text.setCharAt(at, sign);
        else text.deleteCharAt(at);
    }

    private static String e(Random random, int level, int open) {
        if (level == 5) return o(random, open);
        String signs = new String[] {"|", "&", "<=>", "+-", "*/%"}[level];
        StringBuilder text = new StringBuilder(e(random, level + 1, open));
        for (int i = level == 2 ? 1 : 2; i > 0 && random.nextInt(10) <= level; i--) {
            text.append(signs.charAt(random.nextInt(signs.length()))).append(e(random, level + 1, open));
        }
        return text.toString();
    }

    private static String o(Random random, int open) {
        int way = random.nextInt(open < 6 ? 10 : 7);
        if (way < 4) return String.valueOf("ftwrsm".charAt(random.nextInt(6)));
        if (way < 7) return String.valueOf(random.nextInt(way == 6 ? 10000 : 13));
        if (way == 7) return "(" + e(random, random.nextInt(5), open + 1) + ")";
        return (way == 8 ? "!" : "-") + o(random, open + 1);
    }

    /** Where a text has its fault, by many texts; with hardly a change most are whole. */
    private static void faultsOfTexts() {
        Due.by("8: -100 less its FAULT, as the grammar has it");
        Random random = new Random(8);
        List<String> texts = new ArrayList<>();
        for (int i = 0; i < 1500; i++) texts.add(text(random));
        for (int i = 0; i < 500; i++) {
            StringBuilder text = new StringBuilder(i % 3 == 0 ? "t?" : i % 3 == 1 ? "" : "w;");
            for (int j = 3 + random.nextInt(6); j > 0; j--) text.append("(!-".charAt(random.nextInt(3)));
            text.append(e(random, 5, 6));
            for (int j = random.nextInt(8); j > 0; j--) text.append(")))+1!(".charAt(random.nextInt(7)));
            texts.add(text.toString());
        }
        for (String each : texts) {
            if (each.length() > 120) continue;
            int fault = ModelText.fault(each);
            Due.is("law() of " + each, Senates.law(new CradleVeto(), each), fault < 0 ? 1 : -100 - fault);
        }
    }
}
