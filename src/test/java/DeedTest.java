import java.util.ArrayList;
import java.util.Random;

/** Promises 24 to 32: readings, feeds, births in deed, what is led, images, changes undone and done again. */
public final class DeedTest {
    public static void main(String[] args) {
        readings();
        refusedReadings();
        feeds();
        births();
        quarters();
        led();
        images();
        undone();
        undoneBehindDeeds();
        fortyChanges();
        changesByChance();
        Due.end();
    }

    private static void readings() {
        Random random = new Random(31);
        for (int i = 0; i < 30; i++) {
            int bills = 1 + random.nextInt(10);
            int senators = 1 + random.nextInt(6);
            CradleVeto x = Senates.some(random, bills, senators);
            int[] due = new int[6];
            int changes = x.count(3);
            Told told = new Told(x);
            for (int j = 0; j < 20; j++) {
                int bs = 10 * random.nextInt(bills) + random.nextInt(senators);
                int z = x.of(0, 9) * 1103515245 + 12345;
                boolean cries = (z >>> 8) % 12 < x.cross(bs);
                int since = cries ? 0 : told.behind(bs, x.of(0, 8));
                due[0]++;
                due[cries ? 1 : 2]++;
                if (cries) due[4]++;
                else due[3] += told.worth(bs);
                Due.is("read", x.read(bs), cries ? 0 : 1);
                Due.is("seed", x.of(0, 9), z);
                Due.is("since", x.of(0, 8), since);
                for (int what = 0; what < 6; what++) Due.is("led " + what, x.led(what), due[what]);
            }
            Due.is("deeds are no changes", x.count(3), changes);
        }
    }

    private static void refusedReadings() {
        CradleVeto x = new CradleVeto();
        Due.is("none", x.read(0), Due.BAD);
        x.bill(10);
        Due.is("no senator", x.read(0), Due.BAD);
        x.senator(1, 1);
        for (int bs : new int[] {-1, 1, 10, 11, -10, Integer.MIN_VALUE, Integer.MAX_VALUE}) {
            Due.is("read " + bs, x.read(bs), Due.BAD);
        }
        Due.is("seed is as it was", x.of(0, 9), 1);
        Due.is("no readings", x.led(0), 0);
    }

    private static void feeds() {
        CradleVeto x = new CradleVeto();
        Due.is("at once", x.fed(), 0);
        x.pass(33);
        Due.is("what since was", x.fed(), 33);
        Due.is("since", x.of(0, 8), 0);
        Due.is("feeds", x.led(4), 2);
        Due.is("no changes", x.count(3), 0);
    }

    private static void births() {
        CradleVeto x = new CradleVeto();
        x.pass(12);
        for (int[] each : new int[][] {{-1, 0}, {10, 0}, {0, -1}, {0, 10}}) Due.is("born", x.born(each[0], each[1]), Due.BAD);
        Due.is("no births", x.led(5), 0);
        Due.is("since is as it was", x.of(0, 8), 12);
        Due.is("born", x.born(9, 8), 8);
        Due.is("teeth", x.of(0, 6), 9);
        Due.is("wind", x.of(0, 7), 8);
        Due.is("since", x.of(0, 8), 0);
        Due.is("births", x.led(5), 1);
        Due.is("no feed", x.led(4), 0);
        Due.is("no changes", x.count(3), 0);
    }

    private static void quarters() {
        CradleVeto x = new CradleVeto();
        for (int q : new int[] {0, 96, -1, Integer.MAX_VALUE, Integer.MIN_VALUE}) Due.is("pass " + q, x.pass(q), Due.BAD);
        Due.is("one", x.pass(1), 1);
        Due.is("more", x.pass(50), 51);
        Due.is("95 stays", x.pass(45), 95);
        Due.is("95 stays", x.pass(95), 95);
        Due.is("since", x.of(0, 8), 95);
        Due.is("no changes", x.count(3), 0);
    }

    private static void led() {
        CradleVeto x = new CradleVeto();
        Due.is("-1", x.led(-1), Due.BAD);
        Due.is("6", x.led(6), Due.BAD);
        x.bill(10);
        x.senator(0, 0);
        Senates.law(x, "0");
        x.mend(0, 3, 99);
        for (int i = 0; i < 5; i++) Due.is("passed", x.read(0), 1);
        Due.is("worth", x.led(3), 495);
        Senates.law(x, "12");
        for (int i = 0; i < 4; i++) Due.is("cried", x.read(0), 0);
        x.fed();
        int[] due = {9, 4, 5, 495, 5, 0};
        for (int what = 0; what < 6; what++) Due.is("led " + what, x.led(what), due[what]);
    }

    private static void images() {
        CradleVeto x = new CradleVeto();
        Due.is("none", x.back(), Due.STATE);
        x.bill(12);
        x.senator(3, 0);
        x.mend(0, 6, 4);
        x.mend(0, 7, 5);
        x.mend(0, 9, 99);
        Senates.law(x, "f%12");
        for (int i = 0; i < 7; i++) x.read(0);
        x.fed();
        x.pass(3);
        int[] then = told(x);
        Due.is("image", x.image(), 7);
        x.read(0);
        x.read(0);
        x.born(1, 2);
        x.pass(9);
        x.mend(0, 3, 55);
        x.mend(0, 6, 7);
        Due.is("back", x.back(), 7);
        int[] now = told(x);
        for (int i = 0; i < now.length; i++) Due.is("laid back " + i, now[i], then[i]);
        Due.is("worth is kept by no image", x.of(0, 3), 55);
        Due.is("changes are as they were", x.count(3), 5);
        x.read(0);
        Due.is("back again", x.back(), 7);
        x.read(0);
        Due.is("another image", x.image(), 8);
        x.born(0, 0);
        Due.is("the latest", x.back(), 8);
        Due.is("no birth", x.led(5), 0);
        Due.is("undone behind it", x.undo(), 4);
        Due.is("teeth as they were ahead of the change", x.of(0, 6), 1);
    }

    private static int[] told(CradleVeto x) {
        int[] all = new int[10];
        for (int what = 0; what < 6; what++) all[what] = x.led(what);
        for (int what = 6; what < 10; what++) all[what] = x.of(0, what);
        return all;
    }

    private static void undone() {
        CradleVeto x = new CradleVeto();
        x.bill(25);
        x.senator(4, 1);
        int[][] told = {{0, 0, 2, 7}, {0, 1, 5, 6}, {0, 2, 0, 3}, {0, 3, 10, 90}, {0, 4, 4, 5}, {0, 5, 1, 2},
            {0, 6, 0, 1}, {0, 7, 0, 2}, {0, 8, 0, 30}, {0, 9, 1, -5}};
        for (int[] each : told) x.mend(each[0], each[1], each[3]);
        for (int i = 9; i >= 0; i--) {
            Due.is("undo", x.undo(), i);
            Due.is("as it was", x.of(told[i][0], told[i][1]), told[i][2]);
        }
        Due.is("none", x.undo(), Due.STATE);
        for (int i = 0; i < 10; i++) {
            Due.is("redo", x.redo(), 9 - i);
            Due.is("as told", x.of(told[i][0], told[i][1]), told[i][3]);
        }
        Due.is("none", x.redo(), Due.STATE);
        x.undo();
        x.undo();
        Due.is("the same number", x.mend(0, 0, 7), 7);
        Due.is("a refused number", x.mend(0, 0, 10), Due.VOID);
        x.bill(30);
        x.pass(4);
        Due.is("no other came behind", x.redo(), 1);
        Due.is("since", x.of(0, 8), 30);
        Due.is("another one", x.mend(0, 0, 8), 7);
        Due.is("came behind", x.redo(), Due.STATE);
        Due.is("may be undone", x.count(3), 10);
    }

    private static void undoneBehindDeeds() {
        CradleVeto x = new CradleVeto();
        x.mend(0, 6, 5);
        x.mend(0, 8, 40);
        x.born(2, 2);
        x.pass(7);
        Due.is("undo", x.undo(), 1);
        Due.is("since as it was ahead of the change", x.of(0, 8), 0);
        x.pass(3);
        Due.is("undo", x.undo(), 0);
        Due.is("teeth as they were ahead of the change", x.of(0, 6), 0);
        Due.is("births stay", x.led(5), 1);
        Due.is("redo", x.redo(), 1);
        Due.is("teeth", x.of(0, 6), 5);
        Due.is("redo", x.redo(), 0);
        Due.is("since", x.of(0, 8), 40);
    }

    private static void fortyChanges() {
        CradleVeto x = new CradleVeto();
        for (int i = 1; i <= 45; i++) {
            Due.is("mend", x.mend(0, 8, i), i - 1);
            Due.is("changes", x.count(3), Math.min(40, i));
        }
        for (int i = 39; i >= 0; i--) Due.is("undo", x.undo(), i);
        Due.is("forty at most", x.undo(), Due.STATE);
        Due.is("the first ones stay", x.of(0, 8), 5);
        for (int i = 39; i >= 0; i--) Due.is("redo", x.redo(), i);
        Due.is("all", x.of(0, 8), 45);
        Due.is("none", x.redo(), Due.STATE);
    }

    /** Against lists of changes, of all numbers of some bills and senators. */
    private static void changesByChance() {
        Random random = new Random(43);
        for (int i = 0; i < 60; i++) {
            CradleVeto x = new CradleVeto();
            for (int b = 0; b < 4; b++) x.bill(34 + b);
            for (int s = 0; s < 3; s++) x.senator(s, s);
            ArrayList<int[]> made = new ArrayList<>();
            ArrayList<int[]> undone = new ArrayList<>();
            for (int j = 0; j < 160; j++) {
                int kind = random.nextInt(i % 2 == 0 ? 10 : 4);
                if (kind == 0 && random.nextInt(3) > 0) {
                    Due.is("undo", x.undo(), made.isEmpty() ? Due.STATE : made.size() - 1);
                    if (made.isEmpty()) continue;
                    int[] latest = made.remove(made.size() - 1);
                    undone.add(latest);
                    Due.is("as it was", x.of(latest[0], latest[1]), latest[2]);
                } else if (kind == 1) {
                    Due.is("redo", x.redo(), undone.isEmpty() ? Due.STATE : undone.size() - 1);
                    if (undone.isEmpty()) continue;
                    int[] latest = undone.remove(undone.size() - 1);
                    made.add(latest);
                    Due.is("as told", x.of(latest[0], latest[1]), latest[3]);
                } else {
                    int what = random.nextInt(10);
                    int number = what < 4 ? random.nextInt(4) : what < 6 ? random.nextInt(3) : 0;
                    int v = 1 + random.nextInt(2);
                    int was = x.of(number, what);
                    Due.is("mend", x.mend(number, what, v), was);
                    if (was == v) continue;
                    made.add(new int[] {number, what, was, v});
                    undone.clear();
                    if (made.size() > 40) made.remove(0);
                }
                Due.is("may be undone", x.count(3), made.size());
            }
        }
    }
}
