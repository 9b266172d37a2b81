/** Edges of promises 7 to 10, and of the law's text: each sentence that names one has a test of its own. */
public final class EdgeLawTest {
    private static final int FAR = Integer.MAX_VALUE, FAR_BELOW = Integer.MIN_VALUE;
    private static final String NAMES = "ftwrsm", BETWEEN = "|&<=>+-*/%";
    private static final String LEAST = "(0-2048*1024*1024)";

    public static void main(String[] args) {
        bytesTooSmallOrLarge();
        aFullTape();
        emptyBehindALaw();
        emptyBehindAFault();
        theLawStaysBehindAFault();
        noLawStaysBehindAFault();
        anotherLaw();
        anEmptyText();
        everyFirstByte();
        everySecondByte();
        numbersOfOneToFourDigits();
        comparisonsOfTwoSides();
        linesOneOrMore();
        oneQuestionALine();
        noBlanks();
        sixOpen();
        openAtOnce();
        sixOpenInEachE();
        textsThatEndTooEarly();
        textsAsLongAsTheTape();
        intsThatWrap();
        byZero();
        towardZero();
        oneOrZero();
        leftToRight();
        theFirstLineThatCounts();
        noneCounts();
        heldWithinTwelve();
        withoutATextHeld();
        withoutATextCut();
        namesLeastAndMost();
        crossRefused();
        crossAtNinetyFive();
        readerRefused();
        readerOfEachBill();
        Due.end();
    }

    // ---- promise 7

    private static void bytesTooSmallOrLarge() {
        Due.by("7: a byte (0 .. 255): BAD");
        CradleVeto x = new CradleVeto();
        for (int letter : new int[] {-1, 256, -128, 257, FAR, FAR_BELOW}) Due.is("feed(" + letter + ")", x.feed(letter), Due.BAD);
        Due.is("none came", x.count(2), 0);
        Due.is("feed(0)", x.feed(0), 1);
        Due.is("feed(255)", x.feed(255), 2);
        Due.is("two", x.count(2), 2);
    }

    private static void aFullTape() {
        Due.by("7: FULL (120)");
        CradleVeto x = new CradleVeto();
        for (int i = 1; i < 120; i++) x.feed('1');
        Due.is("119", x.count(2), 119);
        Due.is("the last", x.feed('1'), 120);
        Due.is("one more", x.feed('1'), Due.FULL);
        Due.is("BAD ahead of FULL", x.feed(-1), Due.BAD);
        Due.is("BAD ahead of FULL", x.feed(256), Due.BAD);
        Due.is("120", x.count(2), 120);
    }

    // ---- promise 8

    private static void emptyBehindALaw() {
        Due.by("8: THE TAPE is empty then (a law)");
        CradleVeto x = new CradleVeto();
        Due.is("law", Senates.law(x, "12"), 1);
        Due.is("empty", x.count(2), 0);
        Due.is("no text any more", x.law(), -100);
    }

    private static void emptyBehindAFault() {
        Due.by("8: THE TAPE is empty then (a fault)");
        CradleVeto x = new CradleVeto();
        Due.is("law", Senates.law(x, "12+"), -103);
        Due.is("empty", x.count(2), 0);
        Due.is("the first again", x.feed('5'), 1);
        Due.is("law", x.law(), 1);
    }

    private static void theLawStaysBehindAFault() {
        Due.by("8: -100 less its FAULT: THE LAW is as it was");
        CradleVeto x = Senates.plain(1, 1);
        Senates.law(x, "7");
        String[] texts = {"", "*", "8+", "8;", "8?", "8)", "(8", "8 ", "88888", "0?8;9;"};
        int[] due = {0, 0, 2, 2, 2, 1, 2, 1, 4, 6};
        for (int i = 0; i < texts.length; i++) {
            Due.is("law of " + texts[i], Senates.law(x, texts[i]), -100 - due[i]);
            Due.is("cross behind " + texts[i], x.cross(0), 7);
        }
    }

    private static void noLawStaysBehindAFault() {
        Due.by("8: -100 less its FAULT: without a text it is as it was");
        CradleVeto x = Senates.plain(1, 1);
        x.mend(0, 8, 23);
        for (String text : new String[] {"", "x", "12?", "12;)"}) {
            Due.so("a fault: " + text, Senates.law(x, text) <= -100);
            Due.is("cross behind " + text, x.cross(0), 24 / 4 - 2);
        }
    }

    private static void anotherLaw() {
        Due.by("8: THE TAPE becomes THE LAW");
        CradleVeto x = Senates.plain(1, 1);
        String[] texts = {"0?1;2?3;4", "5", "0", "0?9", "(((6)))", "11"};
        int[] due = {3, 5, 0, 0, 6, 11};
        for (int i = 0; i < texts.length; i++) {
            Due.is("law of " + texts[i], Senates.law(x, texts[i]), 1);
            Due.is("cross", x.cross(0), due[i]);
        }
    }

    // ---- the law's text: faults

    private static void anEmptyText() {
        Due.by("FAULT: the length, if it ends too early (nothing at all)");
        Due.is("empty", Senates.faultOf(""), 0);
    }

    private static boolean isDigit(int letter) {
        return letter >= '0' && letter <= '9';
    }

    private static int faultOfBytes(int... bytes) {
        CradleVeto x = new CradleVeto();
        for (int each : bytes) x.feed(each);
        return -100 - x.law();
    }

    private static void everyFirstByte() {
        Due.by("FAULT: the place of the first byte with which no TEXT goes on (each byte first)");
        for (int letter = 0; letter < 256; letter++) {
            int due = letter == '(' || letter == '!' || letter == '-' ? 1 : 0;
            if (isDigit(letter) || NAMES.indexOf(letter) >= 0) due = -101;
            Due.is("byte " + letter, faultOfBytes(letter), due);
        }
    }

    private static void everySecondByte() {
        Due.by("FAULT: the place of the first byte with which no TEXT goes on (each byte behind an O)");
        for (int letter = 0; letter < 256; letter++) {
            boolean goesOn = BETWEEN.indexOf(letter) >= 0 || letter == '?' || letter == ';';
            Due.is("byte " + letter + " behind 1", faultOfBytes('1', letter), isDigit(letter) ? -101 : goesOn ? 2 : 1);
            Due.is("byte " + letter + " behind f", faultOfBytes('f', letter), goesOn ? 2 : 1);
            boolean inside = BETWEEN.indexOf(letter) >= 0 || letter == ')';
            Due.is("byte " + letter + " behind (f", faultOfBytes('(', 'f', letter, 'f'), inside ? letter == ')' ? 3 : 4 : 2);
        }
    }

    private static void numbersOfOneToFourDigits() {
        Due.by("O: a number (1 to 4 digits)");
        String[] texts = {"0", "9", "10", "999", "9999", "0000", "00000", "99999", "1+12345", "0001", "12345678"};
        int[] due = {-101, -101, -101, -101, -101, -101, 4, 4, 6, -101, 4};
        for (int i = 0; i < texts.length; i++) Due.is(texts[i], Senates.faultOf(texts[i]), due[i]);
        Due.is("0009", Senates.given("0009"), 9);
        Due.is("9999-9990", Senates.given("9999-9990"), 9);
    }

    private static void comparisonsOfTwoSides() {
        Due.by("B: S, or S < S, S = S, S > S");
        String[] texts = {"1<2", "1<2<3", "1=2>3", "1>2=3", "1<2&3<4", "1<2|3=4", "(1<2)<3", "1<2+3<4", "1<2?3<4", "1<2;3<4", "1<2?3<4<5"};
        int[] due = {-101, 3, 3, 3, -101, -101, -101, 5, -101, -101, 7};
        for (int i = 0; i < texts.length; i++) Due.is(texts[i], Senates.faultOf(texts[i]), due[i]);
    }

    private static void linesOneOrMore() {
        Due.by("LINES, one or more, parted by ;");
        String[] texts = {";", "1", "1;", "1;2", "1;;2", ";1", "1;2;", "1;2;3", "(1;2)"};
        int[] due = {0, -101, 2, -101, 2, 0, 4, -101, 2};
        for (int i = 0; i < texts.length; i++) Due.is(texts[i], Senates.faultOf(texts[i]), due[i]);
    }

    private static void oneQuestionALine() {
        Due.by("LINE: E, or E ? E");
        String[] texts = {"1?2", "?2", "1?", "1??2", "1?2?3", "1?2;3?4", "(1?2)", "1?(2?3)", "1?;2"};
        int[] due = {-101, 0, 2, 2, 3, -101, 2, 4, 2};
        for (int i = 0; i < texts.length; i++) Due.is(texts[i], Senates.faultOf(texts[i]), due[i]);
    }

    private static void noBlanks() {
        Due.by("no blanks");
        String[] texts = {" 1", "1 ", "1 +1", "1+ 1", "( 1)", "1; 2", "1\n", "\t1", "1 1"};
        int[] due = {0, 1, 1, 2, 1, 2, 1, 0, 1};
        for (int i = 0; i < texts.length; i++) Due.is("text " + i, Senates.faultOf(texts[i]), due[i]);
    }

    private static void sixOpen() {
        Due.by("at most 6 of ( ! - ahead of an O are open at once");
        for (int kinds = 0; kinds < 729; kinds++) {
            StringBuilder open = new StringBuilder();
            StringBuilder closed = new StringBuilder();
            int left = kinds;
            for (int i = 0; i < 6; i++) {
                open.append("(!-".charAt(left % 3));
                if (left % 3 == 0) closed.append(')');
                left /= 3;
            }
            Due.is(open + " six", Senates.faultOf(open + "1" + closed), -101);
            Due.is(open + "! seven", Senates.faultOf(open + "!1" + closed), 6);
            Due.is(open + "- seven", Senates.faultOf(open + "-1" + closed), 6);
            Due.is(open + "( seven", Senates.faultOf(open + "(1)" + closed), 6);
        }
    }

    private static void openAtOnce() {
        Due.by("at most 6 are open at once: those that were closed are open no longer");
        String[] texts = {"!1+!1+!1+!1+!1+!1+!1", "-1*-1*-1*-1*-1*-1*-1", "(1)+(1)+(1)+(1)+(1)+(1)+(1)",
            "((((((1))))))+((((((1))))))", "(((((!1)+!1)+!1)+!1)+!1)+!1", "(((((!1+-1*(2))))))", "------1;!!!!!!1?((((((1))))))",
            "(!(-(!1)))*(-1-(-(!(1))))"};
        for (String text : texts) Due.is(text, Senates.faultOf(text), -101);
        Due.is("five open behind a closed one", Senates.faultOf("((((((1)+(2))))))"), -101);
        Due.is("six open behind an O", Senates.faultOf("((((((1+(2)))))))"), 8);
        Due.is("- between two is none ahead of an O", Senates.faultOf("((((((1-2-3))))))"), -101);
    }

    private static void sixOpenInEachE() {
        Due.by("at most 6 are open at once: in each E, of each LINE, behind each sign");
        String[] ahead = {"1?", "0;", "0?1;", "0?1;2?", "((((((1))))))?", "------1?", "!!!!!!1;", "1|", "1&", "1<", "1=",
            "1>", "1+", "1-", "1*", "1/", "1%"};
        for (String text : ahead) {
            for (String sign : new String[] {"(", "!", "-"}) {
                String six = sign + sign + sign + sign + sign + sign;
                String closed = sign.equals("(") ? "))))))" : "";
                Due.is(text + six + ", six", Senates.faultOf(text + six + "1" + closed), -101);
                Due.is(text + six + ", seven", Senates.faultOf(text + six + sign + "1"), text.length() + 6);
                Due.is(text + six + ", too early", Senates.faultOf(text + six), text.length() + 6);
            }
        }
    }

    private static void textsThatEndTooEarly() {
        Due.by("FAULT: the length, if it ends too early");
        for (String text : new String[] {"(", "!", "-", "1+", "1-", "1*", "1/", "1%", "1<", "1=", "1>", "1&", "1|", "1?", "1;", "(1", "(1+",
            "((1)", "1?2;", "1?2+", "f;t?w<", "!(-", "((((((1)))))"}) {
            Due.is(text, Senates.faultOf(text), text.length());
        }
    }

    private static void textsAsLongAsTheTape() {
        Due.by("a TEXT by THE TAPE (at most 120 bytes)");
        StringBuilder text = new StringBuilder("0");
        while (text.length() < 119) text.append("+0");
        Due.is("119 bytes", Senates.given(text.toString()), 0);
        Due.is("120 bytes", Senates.given(text.substring(0, 118) + "12"), 12);
        Due.is("a fault at the last", Senates.faultOf(text + "x"), 119);
        Due.is("it ends too early", Senates.faultOf(text + "+"), 120);
        Due.is("what is behind 120 does not come", Senates.faultOf(text + "+7"), 120);
    }

    // ---- the law's text: what it gives

    private static void intsThatWrap() {
        Due.by("ints that wrap");
        Due.is("+ beyond the most", Senates.given("0-1-" + LEAST + "+1=" + LEAST), 1);
        Due.is("- below the least", Senates.given(LEAST + "-1>0"), 1);
        Due.is("* beyond the most", Senates.given("1024*1024*1024*4+3"), 3);
        Due.is("less nothing of the least", Senates.given("-" + LEAST + "=" + LEAST), 1);
        Due.is("the least by -1", Senates.given(LEAST + "/-1=" + LEAST), 1);
        Due.is("the rest of that", Senates.given(LEAST + "%-1+5"), 5);
        Due.is("the least is below 0", Senates.given(LEAST + "<0"), 1);
    }

    private static void byZero() {
        Due.by("/ and % by 0 give 0");
        String[] texts = {"9/0", "9%0", "0/0", "0%0", "-9/0", "-9%0", "9/(3-3)+4", "9%(t-3)+4", "5+9/0", "9/0*9+1", LEAST + "/0", LEAST + "%0"};
        int[] due = {0, 0, 0, 0, 0, 0, 4, 4, 5, 1, 0, 0};
        for (int i = 0; i < texts.length; i++) Due.is(texts[i], Senates.given(texts[i]), due[i]);
    }

    private static void towardZero() {
        Due.by("/ and % toward 0");
        String[] texts = {"-7/2+9", "7/-2+9", "-7/-2", "-7%2+9", "7%-2+9", "-7%-2+9", "-1/2", "1-1/2", "7/2", "7%2", "-6/3+9"};
        int[] due = {6, 6, 3, 8, 10, 8, 0, 1, 3, 1, 7};
        for (int i = 0; i < texts.length; i++) Due.is(texts[i], Senates.given(texts[i]), due[i]);
    }

    private static void oneOrZero() {
        Due.by("| & < = > ! give 1, 0");
        String[] texts = {"5|0", "0|5", "0|0", "-5|-5", "5&7", "5&0", "0&5", "-5&-5", "3<4", "4<4", "5<4", "3=3", "3=4", "4>3", "4>4",
            "3>4", "!0", "!7", "!-7", "-3<-2", "-3>-2", "0-0=0"};
        int[] due = {1, 1, 0, 1, 1, 0, 0, 1, 1, 0, 0, 1, 0, 1, 0, 0, 1, 0, 0, 1, 0, 1};
        for (int i = 0; i < texts.length; i++) Due.is(texts[i], Senates.given(texts[i]), due[i]);
    }

    private static void leftToRight() {
        Due.by("E, A, B, S, P, O: which signs bind, one behind the other");
        String[] texts = {"12-5-4", "12-5+4", "48/4/3", "48/4*3%7", "2+3*4-5", "1|1&0", "0&0|1", "1&2<1", "2<1|1", "1+1<3", "3-1=2",
            "2*3>5", "-2+5", "-(2+5)+9", "!0+5", "!(0+5)", "-2*-3", "!2*3", "!0*3", "10%4*2", "10-8/4"};
        int[] due = {3, 11, 4, 1, 9, 1, 1, 0, 1, 1, 1, 1, 3, 2, 6, 0, 6, 0, 3, 4, 8};
        for (int i = 0; i < texts.length; i++) Due.is(texts[i], Senates.given(texts[i]), due[i]);
    }

    private static void theFirstLineThatCounts() {
        Due.by("the first LINE without a first E, or whose first E is not 0, counts");
        String[] texts = {"3;4", "0;4", "-1;4", "1?3;4", "-1?3;4", "0?3;4", "0?3;0?4;5", "0?3;4;5", "1?0;4", "1?-1;4", "2-2?3;4", "f<9?3;f<11?4;5"};
        int[] due = {3, 0, 0, 3, 3, 4, 5, 4, 0, 0, 4, 4};
        for (int i = 0; i < texts.length; i++) Due.is(texts[i], Senates.given(texts[i]), due[i]);
    }

    private static void noneCounts() {
        Due.by("none: 0");
        for (String text : new String[] {"0?9", "0?9;0?9", "f<0?1;t>9?2;!1?3"}) Due.is(text, Senates.given(text), 0);
    }

    private static void heldWithinTwelve() {
        Due.by("held within 0 .. 12");
        String[] texts = {"-1", "-9999", LEAST, "0", "1", "11", "12", "13", "9999", "0-1-" + LEAST};
        int[] due = {0, 0, 0, 0, 1, 11, 12, 12, 12, 12};
        for (int i = 0; i < texts.length; i++) Due.is(texts[i], Senates.given(texts[i]), due[i]);
    }

    private static CradleVeto infant(int since, int teeth, int wind, int rumble, int sharp) {
        CradleVeto x = new CradleVeto();
        x.bill(10 + sharp);
        x.senator(rumble, 0);
        x.mend(0, 6, teeth);
        x.mend(0, 7, wind);
        x.mend(0, 8, since);
        return x;
    }

    private static void withoutATextHeld() {
        Due.by("without a text, held within 0 .. 12");
        Due.is("all least: less 2", infant(0, 0, 0, 0, 0).cross(0), 0);
        Due.is("all most", infant(95, 9, 9, 9, 9).cross(0), 12);
        Due.is("twelve", infant(7, 9, 9, 9, 9).cross(0), 12);
        Due.is("eleven", infant(3, 9, 9, 9, 8).cross(0), 10);
        Due.is("thirteen", infant(11, 9, 9, 9, 9).cross(0), 12);
        Due.is("one", infant(11, 0, 0, 0, 0).cross(0), 1);
        Due.is("0", infant(7, 0, 0, 0, 0).cross(0), 0);
    }

    private static void withoutATextCut() {
        Due.by("without a text: each cut");
        Due.is("f 7", infant(6, 3, 3, 0, 0).cross(0), 1);
        Due.is("f 8", infant(7, 3, 3, 0, 0).cross(0), 2);
        Due.is("t 5", infant(3, 5, 3, 3, 0).cross(0), 2);
        Due.is("t 6", infant(3, 6, 3, 3, 0).cross(0), 3);
        Due.is("w 8", infant(3, 3, 8, 3, 0).cross(0), 3);
        Due.is("w 9", infant(3, 3, 9, 3, 0).cross(0), 4);
        Due.is("r 2", infant(3, 3, 3, 2, 3).cross(0), 2);
        Due.is("r 3", infant(3, 3, 3, 3, 3).cross(0), 3);
        Due.is("s 5", infant(3, 3, 3, 3, 5).cross(0), 3);
        Due.is("s 6", infant(3, 3, 3, 3, 6).cross(0), 4);
        Due.is("two thirds each", infant(2, 2, 2, 2, 2).cross(0), 0);
    }

    private static void namesLeastAndMost() {
        Due.by("NAMES: f SINCE, t TEETH, w WIND, r RUMBLE, s SHARP, m MATTER");
        String[] texts = {"f-90", "t", "w", "r", "s", "m"};
        for (int i = 0; i < texts.length; i++) {
            CradleVeto most = infant(95, 9, 9, 9, 9);
            most.mend(0, 2, 3);
            Senates.law(most, texts[i]);
            Due.is(texts[i] + " the most", most.cross(0), i == 0 ? 5 : i == 5 ? 3 : 9);
            CradleVeto least = infant(0, 0, 0, 0, 0);
            Senates.law(least, texts[i].substring(0, 1));
            Due.is(texts[i] + " the least", least.cross(0), i == 0 ? 1 : 0);
        }
    }

    // ---- promises 9 and 10

    private static void crossRefused() {
        Due.by("9: BAD");
        CradleVeto x = new CradleVeto();
        Due.is("none at all", x.cross(0), Due.BAD);
        x.bill(10);
        Due.is("no senators", x.cross(0), Due.BAD);
        CradleVeto y = new CradleVeto();
        y.senator(0, 0);
        Due.is("no bills", y.cross(0), Due.BAD);
        CradleVeto full = Senates.plain(10, 6);
        for (int bs = -120; bs < 220; bs++) {
            boolean is = bs >= 0 && bs < 100 && bs % 10 < 6;
            Due.is("cross(" + bs + ")", full.cross(bs), is ? 0 : Due.BAD);
        }
        for (int bs : new int[] {FAR, FAR_BELOW}) Due.is("cross(" + bs + ")", full.cross(bs), Due.BAD);
    }

    private static void crossAtNinetyFive() {
        Due.by("9: SINCE is more by LENGTH; 95 stays");
        CradleVeto x = new CradleVeto();
        x.bill(90);
        x.senator(0, 0);
        Senates.law(x, "f-84");
        for (int since = 76; since <= 95; since++) {
            x.mend(0, 8, since);
            Due.is("since " + since, x.cross(0), Math.min(95, since + 9) - 84);
        }
        Due.is("it is not read", x.of(0, 8), 95);
    }

    private static void readerRefused() {
        Due.by("10: BAD; NOT: there are no SENATORS");
        CradleVeto x = new CradleVeto();
        Due.is("no bills, no senators", x.reader(0), Due.BAD);
        x.bill(10);
        Due.is("no senators", x.reader(0), Due.NOT);
        x.senator(0, 0);
        for (int bill : new int[] {-1, 1, 9, 10, FAR, FAR_BELOW}) Due.is("reader(" + bill + ")", x.reader(bill), Due.BAD);
        Due.is("one", x.reader(0), 0);
    }

    private static void readerOfEachBill() {
        Due.by("10: fewest of twelve; of like ones the least");
        CradleVeto x = new CradleVeto();
        for (int b = 0; b < 10; b++) x.bill(10 + b);
        for (int rumble : new int[] {9, 5, 7, 5, 1, 1}) x.senator(rumble, 0);
        Senates.law(x, "s<4?r;s<7?9-r;s<9?(r-5)*(r-5);12");
        int[] due = {4, 4, 4, 4, 0, 0, 0, 1, 1, 0};
        for (int b = 0; b < 10; b++) Due.is("reader(" + b + ")", x.reader(b), due[b]);
        Senates.law(x, "20");
        Due.is("twelve each", x.reader(9), 0);
        Senates.law(x, "r>1");
        Due.is("none cries at the last two", x.reader(3), 4);
        Senates.law(x, "(r=9)+(s<5)");
        Due.is("by the bill itself", x.reader(9), 1);
    }
}
