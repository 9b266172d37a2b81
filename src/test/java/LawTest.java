import java.util.Random;

/** Promises 7 to 10: the tape, the law, of how many of twelve, the reader. */
public final class LawTest {
    public static void main(String[] args) {
        tape();
        withoutText();
        lines();
        signs();
        faults();
        faultsByAnotherWay();
        textsByChance();
        longTexts();
        crossed();
        crossedByEach();
        readers();
        Due.end();
    }

    private static void tape() {
        CradleVeto x = new CradleVeto();
        Due.is("feed -1", x.feed(-1), Due.BAD);
        Due.is("feed 256", x.feed(256), Due.BAD);
        for (int i = 1; i <= 120; i++) Due.is("feed", x.feed(i % 2 == 0 ? 0 : 255), i);
        Due.is("one more", x.feed(49), Due.FULL);
        Due.is("BAD ahead of FULL", x.feed(256), Due.BAD);
        Due.is("on the tape", x.count(2), 120);
        Due.is("no text", x.law(), -100);
        Due.is("empty then", x.count(2), 0);
        Due.is("and takes again", x.feed('7'), 1);
        Due.is("a text", x.law(), 1);
        Due.is("empty then, too", x.count(2), 0);
    }

    private static void withoutText() {
        CradleVeto x = new CradleVeto();
        x.bill(10);
        x.senator(0, 0);
        for (int i = 0; i < 60; i++) {
            int f = i * 7 % 95;
            int t = i % 10;
            int w = i * 3 % 10;
            int r = i * 7 % 10;
            int s = i / 6;
            CradleVeto y = new CradleVeto();
            y.bill(10 + s);
            y.senator(r, 0);
            y.mend(0, 8, f);
            y.mend(0, 6, t);
            y.mend(0, 7, w);
            int due = (f + 1) / 4 + t / 3 + w / 3 + r / 3 + s / 3 - 2;
            Due.is("without a text", y.cross(0), Math.max(0, Math.min(12, due)));
        }
    }

    private static void lines() {
        Due.is("first", Senates.given("3;4"), 3);
        Due.is("not so", Senates.given("0?3;4"), 4);
        Due.is("so", Senates.given("7?3;4"), 3);
        Due.is("so by less than 0", Senates.given("-7?3;4"), 3);
        Due.is("none", Senates.given("0?3;f<1?4"), 0);
        Due.is("the second E may be 0", Senates.given("1?0;9"), 0);
        Due.is("a line without a first E ends it", Senates.given("f=9?1;5;f=10?7"), 5);
        Due.is("held above", Senates.given("9999"), 12);
        Due.is("held below", Senates.given("-1"), 0);
        Due.is("twelve", Senates.given("12"), 12);
    }

    private static void signs() {
        String[] texts = {"f", "t", "w", "r", "s", "m", "2+3*2", "(2+3)*2", "9-2-3", "9/2", "9%4", "-9/2+9", "-9%4+9",
            "9/0", "9%0", "8/4/2", "7*8%5", "1<2", "2<2", "2=2", "2>1", "1>2", "1+1=2", "!0", "!5", "!!5", "!t+2", "-t+5",
            "--t", "2|0", "0|0", "2&3", "2&0", "1|0&0", "(1|0)&0", "1<2&3", "0&1|1", "5-!0", "5--3", "5-(-3)",
            "2<1|2<3", "0012", "3*!0*2", "-(3-9)", "(f=10)*8", "(1<2)<3", "!(t=3)+4", "((((((9))))))", "!!!!!!0",
            "------7", "(-(!(-1)))+6", "9999*9999*9999*9999*0+1", "f-f/4*4", "t|0*5", "2&2*5", "(1|1)*5"};
        int[] due = {10, 3, 4, 5, 6, 2, 8, 10, 4, 4, 1, 5, 8,
            0, 0, 1, 1, 1, 0, 1, 1, 0, 1, 1, 0, 1, 2, 2,
            3, 1, 0, 1, 0, 1, 0, 1, 1, 4, 8, 8,
            1, 12, 6, 6, 8, 1, 4, 9, 0,
            7, 6, 1, 2, 1, 1, 5};
        Due.is("as many", texts.length, due.length);
        for (int i = 0; i < texts.length; i++) Due.is(texts[i], Senates.given(texts[i]), due[i]);
        // 9999 to the fourth wraps to an int; / and % of the least int by -1 do so, too.
        int wrapped = 9999 * 9999 * 9999 * 9999;
        Due.is("wraps", Senates.given("(9999*9999*9999*9999%1000+1000)%13"), (wrapped % 1000 + 1000) % 13);
        String least = "(0-2048*1024*1024)";
        Due.is("the least int", Senates.given("(" + least + "/-1=" + least + ")+4*(" + least + "%-1=0)"), 5);
    }

    private static void faults() {
        String[] texts = {"", "f ", " f", "12345", "f+", "f<t<w", "f=t>w", "(f", "f)", "()", "f?", "f?1?2", "(f?1)", ";",
            "1;", "1;;2", "x", "1+*2", "f;t;?", "1,", "F", "(((((((1)))))))", "!!!!!!!1", "-!-!-!-1", "-!(-!((1", "!",
            "-", "(", "1 + 2", "1?2;3?", "1(2)", "ff", "1f", "f1", "((((((1)))))))", "1|", "1&", "1|&1", "1<t+2=3", "12345;",
            "((((((-1))))))", "(1;2)"};
        int[] due = {0, 1, 0, 4, 2, 3, 3, 2, 1, 1, 2, 3, 2, 0,
            2, 2, 0, 2, 4, 1, 0, 6, 6, 6, 6, 1,
            1, 1, 1, 6, 1, 1, 1, 1, 13, 2, 2, 2, 5, 4,
            6, 2};
        Due.is("as many", texts.length, due.length);
        for (int i = 0; i < texts.length; i++) Due.is("fault of " + texts[i], Senates.faultOf(texts[i]), due[i]);
        CradleVeto x = new CradleVeto();
        x.bill(10);
        x.senator(0, 0);
        Due.is("a law", Senates.law(x, "7"), 1);
        Due.is("no law", Senates.law(x, "8+"), -102);
        Due.is("the law is as it was", x.cross(0), 7);
        for (int i = 128; i < 256; i++) {
            Due.is("1", x.feed('1'), 1);
            Due.is("sign", x.feed(i), 2);
            Due.is("no sign of a text", x.law(), -101);
        }
    }

    /** The same by a pushdown of open signs: it looks at one byte after another, and knows no nesting of calls. */
    private static int faultByPushdown(String text) {
        StringBuilder open = new StringBuilder();
        boolean wantsOperand = true;
        boolean asked = false;
        boolean compared = false;
        StringBuilder comparedOutside = new StringBuilder();
        int digits = 0;
        for (int i = 0; i < text.length(); i++) {
            char c = text.charAt(i);
            if (wantsOperand) {
                if (c == '(' || c == '!' || c == '-') {
                    if (open.length() == 6) return i;
                    open.append(c);
                    if (c == '(') {
                        comparedOutside.append(compared ? '1' : '0');
                        compared = false;
                    }
                    continue;
                }
                if (!Character.isDigit(c) && "ftwrsm".indexOf(c) < 0) return i;
                digits = Character.isDigit(c) ? 1 : 9;
                wantsOperand = false;
                close(open);
                continue;
            }
            if (Character.isDigit(c)) {
                if (++digits > 4) return i;
                continue;
            }
            digits = 9;
            boolean inside = open.indexOf("(") >= 0;
            if (c == ')' && inside) {
                open.setLength(open.length() - 1);
                close(open);
                compared = comparedOutside.charAt(comparedOutside.length() - 1) == '1';
                comparedOutside.setLength(comparedOutside.length() - 1);
                continue;
            }
            wantsOperand = true;
            if ("+-*/%".indexOf(c) >= 0) continue;
            if ("<=>".indexOf(c) >= 0 && !compared) {
                compared = true;
            } else if (c == '|' || c == '&') {
                compared = false;
            } else if (c == '?' && !inside && !asked) {
                asked = true;
                compared = false;
            } else if (c == ';' && !inside) {
                asked = false;
                compared = false;
            } else {
                return i;
            }
        }
        return wantsOperand || open.length() > 0 ? text.length() : -1;
    }

    private static void close(StringBuilder open) {
        while (open.length() > 0 && open.charAt(open.length() - 1) != '(') open.setLength(open.length() - 1);
    }

    private static void faultsByAnotherWay() {
        Random random = new Random(7);
        String all = "ftwrsm0123456789()(!-+*/%|&<=>?;x ";
        for (int i = 0; i < 60000; i++) {
            StringBuilder text = new StringBuilder();
            int length = random.nextInt(30);
            while (text.length() < length) {
                text.append(all.charAt(random.nextInt(all.length())));
                // Most texts go on as far as they can, so that faults are deep.
                int fault = faultByPushdown(text.toString());
                if (fault >= 0 && fault < text.length() && random.nextInt(40) != 0) text.setLength(text.length() - 1);
            }
            int due = faultByPushdown(text.toString());
            Due.is("fault of " + text, Senates.law(new CradleVeto(), text.toString()), due < 0 ? 1 : -100 - due);
        }
    }

    private static int value;

    /** A text of an expression by chance; its value comes along. */
    private static String expression(Random random, int level, int open, int[] names) {
        if (level == 5) return operand(random, open, names);
        StringBuilder text = new StringBuilder(expression(random, level + 1, open, names));
        int so = value;
        String signs = new String[] {"|", "&", "<=>", "+-", "*/%"}[level];
        int more = random.nextInt(4) == 0 ? level == 2 ? 1 : 1 + random.nextInt(2) : 0;
        for (int i = 0; i < more; i++) {
            char sign = signs.charAt(random.nextInt(signs.length()));
            text.append(sign).append(expression(random, level + 1, open, names));
            so = worked(sign, so, value);
        }
        value = so;
        return text.toString();
    }

    private static int worked(char sign, int a, int b) {
        if (sign == '|') return a == 0 && b == 0 ? 0 : 1;
        if (sign == '&') return a == 0 || b == 0 ? 0 : 1;
        if (sign == '<') return b > a ? 1 : 0;
        if (sign == '=') return a - b == 0 ? 1 : 0;
        if (sign == '>') return b < a ? 1 : 0;
        if (sign == '+') return a + b;
        if (sign == '-') return a - b;
        if (sign == '*') return a * b;
        if (b == 0) return 0;
        long whole = (long) a / b;
        return sign == '/' ? (int) whole : (int) (a - whole * b);
    }

    private static String operand(Random random, int open, int[] names) {
        int kind = random.nextInt(open < 3 ? 6 : 3);
        if (kind <= 1) {
            int name = random.nextInt(6);
            value = names[name];
            return "ftwrsm".substring(name, name + 1);
        }
        if (kind == 2) {
            int number = random.nextInt(random.nextBoolean() ? 13 : 10000);
            value = number;
            return Integer.toString(number);
        }
        if (kind == 3) return "(" + expression(random, 0, open + 1, names) + ")";
        String text = (kind == 4 ? "!" : "-") + operand(random, open + 1, names);
        value = kind == 4 ? value == 0 ? 1 : 0 : -value;
        return text;
    }

    private static void textsByChance() {
        Random random = new Random(11);
        int done = 0;
        for (int i = 0; i < 40000; i++) {
            CradleVeto x = new CradleVeto();
            int[] names = {random.nextInt(95) + 1, random.nextInt(10), random.nextInt(10), random.nextInt(10), random.nextInt(10), random.nextInt(4)};
            x.bill(10 + names[4]);
            x.mend(0, 2, names[5]);
            x.senator(names[3], 0);
            x.mend(0, 6, names[1]);
            x.mend(0, 7, names[2]);
            x.mend(0, 8, names[0] - 1);
            StringBuilder text = new StringBuilder();
            int due = 0;
            boolean found = false;
            int lines = 1 + random.nextInt(3);
            for (int line = 0; line < lines; line++) {
                if (line > 0) text.append(';');
                boolean counts = true;
                if (random.nextBoolean()) {
                    text.append(expression(random, 0, 0, names)).append('?');
                    counts = value != 0;
                }
                text.append(expression(random, 0, 0, names));
                if (counts && !found) {
                    due = Math.max(0, Math.min(12, value));
                    found = true;
                }
            }
            if (text.length() > 120) continue;
            done++;
            Due.is("text " + text, Senates.law(x, text.toString()), 1);
            Due.is("of " + text, x.cross(0), due);
        }
        Due.so("enough texts", done > 20000);
    }

    private static void longTexts() {
        StringBuilder text = new StringBuilder();
        for (int i = 0; i < 59; i++) text.append("1+");
        Due.is("120 bytes", Senates.given(text + "-1"), 12);
        CradleVeto x = new CradleVeto();
        Due.is("120 bytes that end too early", Senates.law(x, text + "1+"), -220);
        StringBuilder many = new StringBuilder();
        for (int i = 0; i < 59; i++) many.append("0;");
        Due.is("sixty lines", Senates.given(many + "5"), 0);
        StringBuilder asked = new StringBuilder();
        for (int i = 0; i < 29; i++) asked.append("0?1;");
        Due.is("thirty lines", Senates.given(asked + "1?5"), 5);
        StringBuilder deep = new StringBuilder();
        for (int i = 0; i < 6; i++) deep.append("0|1&1<1+1*(");
        deep.append("0|1&0<1+1*9");
        for (int i = 0; i < 6; i++) deep.append(")");
        Due.is("all levels six deep", Senates.given(deep.toString()), 1);
    }

    private static void crossed() {
        CradleVeto x = new CradleVeto();
        Due.is("no bills", x.cross(0), Due.BAD);
        x.bill(90);
        Due.is("no senators", x.cross(0), Due.BAD);
        x.senator(0, 0);
        x.senator(9, 0);
        Senates.law(x, "f-80+r-r");
        x.mend(0, 8, 80);
        Due.is("since is more by length", x.cross(0), 9);
        x.mend(0, 8, 95);
        Senates.law(x, "f-90");
        Due.is("95 stays", x.cross(1), 5);
        Due.is("nothing is read", x.of(0, 8), 95);
        for (int bs : new int[] {-1, 2, 10, 11, -10, Integer.MAX_VALUE, Integer.MIN_VALUE}) {
            Due.is("cross " + bs, x.cross(bs), Due.BAD);
        }
    }

    /** Ten bills and six senators: each reading has its own numbers. */
    private static void crossedByEach() {
        for (int law = 0; law < 4; law++) {
            CradleVeto x = new CradleVeto();
            for (int b = 0; b < 10; b++) {
                x.bill(10 * (b < 9 ? 9 - b : 5) + b);
                x.mend(b, 2, b % 4);
            }
            for (int s = 0; s < 6; s++) x.senator(9 - s, 0);
            Senates.law(x, "srmf".substring(law, law + 1));
            for (int b = 0; b < 10; b++) {
                for (int s = 0; s < 6; s++) {
                    int[] due = {b, 9 - s, b % 4, b < 9 ? 9 - b : 5};
                    Due.is("law " + law, x.cross(10 * b + s), due[law]);
                }
                for (int s = 6; s < 10; s++) Due.is("no senator", x.cross(10 * b + s), Due.BAD);
            }
            Due.is("no bill", x.cross(100), Due.BAD);
        }
    }

    private static void readers() {
        CradleVeto x = new CradleVeto();
        Due.is("no bill", x.reader(0), Due.BAD);
        x.bill(10);
        Due.is("no senators", x.reader(0), Due.NOT);
        Due.is("no bill, no senators", x.reader(1), Due.BAD);
        Due.is("no bill -1", x.reader(-1), Due.BAD);
        x.senator(5, 0);
        x.senator(3, 0);
        x.senator(8, 0);
        x.senator(3, 0);
        Senates.law(x, "r");
        Due.is("fewest", x.reader(0), 1);
        Senates.law(x, "12-r");
        Due.is("fewest", x.reader(0), 2);
        Senates.law(x, "12");
        Due.is("of like ones the least", x.reader(0), 0);
    }
}
