import java.util.HashMap;

/** The numbers of a senate, asked once: no object is to be asked more than 512 times. */
final class Told {
    final int teeth;
    final int wind;
    final int since;
    private final String law;
    private final int[] lengths;
    private final int[] sharps;
    private final int[] matters;
    private final int[] worths;
    private final int[] rumbles;
    private final HashMap<Integer, Integer> known = new HashMap<>();

    Told(CradleVeto x) {
        law = Senates.lawOf(x);
        lengths = all(x, 0, x.count(0));
        sharps = all(x, 1, lengths.length);
        matters = all(x, 2, lengths.length);
        worths = all(x, 3, lengths.length);
        rumbles = all(x, 4, x.count(1));
        teeth = x.of(0, 6);
        wind = x.of(0, 7);
        since = x.of(0, 8);
    }

    private static int[] all(CradleVeto x, int what, int count) {
        int[] all = new int[count];
        for (int i = 0; i < count; i++) all[i] = x.of(i, what);
        return all;
    }

    int length(int bs) {
        return lengths[bs / 10];
    }

    int worth(int bs) {
        return worths[bs / 10];
    }

    int behind(int bs, int from) {
        return Math.min(95, from + length(bs));
    }

    /** In how many of twelve it would cry with such an infant: another object, told the same numbers, is asked. */
    int crying(int bs, int withTeeth, int withWind, int withSince) {
        int key = ((bs * 10 + withTeeth) * 10 + withWind) * 96 + withSince;
        Integer before = known.get(key);
        if (before != null) return before;
        CradleVeto y = new CradleVeto();
        y.bill(10 * lengths[bs / 10] + sharps[bs / 10]);
        y.mend(0, 2, matters[bs / 10]);
        y.senator(rumbles[bs % 10], 0);
        y.mend(0, 6, withTeeth);
        y.mend(0, 7, withWind);
        y.mend(0, 8, withSince);
        if (!law.isEmpty()) Senates.law(y, law);
        int crying = y.cross(0);
        known.put(key, crying);
        return crying;
    }
}
