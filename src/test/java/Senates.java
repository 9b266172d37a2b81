import java.util.Map;
import java.util.Random;
import java.util.WeakHashMap;

/** Senates for tests, and short ways to tell them things. */
final class Senates {
    private static final Map<CradleVeto, String> LAWS = new WeakHashMap<>();

    private Senates() {
    }

    /** The tape gets a text; what law() answers. */
    static int law(CradleVeto x, String text) {
        for (int i = 0; i < text.length(); i++) x.feed(text.charAt(i));
        int answer = x.law();
        if (answer == 1) LAWS.put(x, text);
        return answer;
    }

    /** The text of a senate's law; an empty one, if none was told by law(..). */
    static String lawOf(CradleVeto x) {
        return LAWS.getOrDefault(x, "");
    }

    /** What a text gives at since 8 (with a length of 2: 10), teeth 3, wind 4, rumble 5, sharp 6, matter 2. */
    static int given(String text) {
        CradleVeto x = new CradleVeto();
        x.bill(26);
        x.mend(0, 2, 2);
        x.senator(5, 0);
        x.mend(0, 6, 3);
        x.mend(0, 7, 4);
        x.mend(0, 8, 8);
        Due.is("text " + text, law(x, text), 1);
        return x.cross(0);
    }

    /** Where a text has its fault; -101 for a text that has none. */
    static int faultOf(String text) {
        return -100 - law(new CradleVeto(), text);
    }

    /** A shelf gets a row of bytes. */
    static void bytes(CradleVeto x, int shelf, int... values) {
        x.row(shelf, 0, values.length);
        for (int i = 0; i < values.length; i++) x.put(shelf, i, values[i]);
    }

    /** Bills of length 1, sharp 0, and senators of rumble 0, party 0. */
    static CradleVeto plain(int bills, int senators) {
        CradleVeto x = new CradleVeto();
        for (int b = 0; b < bills; b++) x.bill(10);
        for (int s = 0; s < senators; s++) x.senator(0, 0);
        return x;
    }

    static CradleVeto some(Random random, int bills, int senators) {
        CradleVeto x = new CradleVeto();
        for (int b = 0; b < bills; b++) {
            x.bill(10 + random.nextInt(90));
            x.mend(b, 2, random.nextInt(4));
            x.mend(b, 3, random.nextInt(100));
        }
        for (int s = 0; s < senators; s++) x.senator(random.nextInt(10), random.nextInt(3));
        x.mend(0, 6, random.nextInt(10));
        x.mend(0, 7, random.nextInt(10));
        x.mend(0, 8, random.nextInt(random.nextBoolean() ? 12 : 96));
        x.mend(0, 9, random.nextInt());
        int kind = random.nextInt(4);
        if (kind == 0) Due.is("law", law(x, "f>30?3;f%5+t-w+m*2;r"), 1);
        if (kind == 1) Due.is("law", law(x, "f*7%13"), 1);
        if (kind == 2) Due.is("law", law(x, "m=1?12;s<3?0;(f+t*3+w*5+r*2+s)%13"), 1);
        return x;
    }
}
