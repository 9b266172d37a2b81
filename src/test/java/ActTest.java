import java.util.ArrayList;
import java.util.Random;

/** Promises 33 to 35 and 41: bodies, acts, the trace; the kinds stand here as classes of the host. */
public final class ActTest {
    private static final ArrayList<Integer> RAN = new ArrayList<>();

    private static void ran(int body) {
        RAN.add(body);
    }

    private interface Reads {
        int n();

        default int reads(int x) {
            ran(1);
            return x + n();
        }
    }

    private interface Tells {
        int cries(int x);

        int hushes(int x);

        default int tells(int x) {
            ran(2);
            return cries(x) - hushes(1);
        }
    }

    private static class Clause implements Reads, Tells {
        private final int n;

        Clause(int n) {
            this.n = n;
        }

        public int n() {
            return n;
        }

        public int cries(int x) {
            ran(10);
            return reads(x) * 2;
        }

        public int hushes(int x) {
            ran(11);
            return x ^ n;
        }
    }

    private static class Cot extends Clause {
        Cot(int n) {
            super(n);
        }

        public int reads(int x) {
            ran(20);
            return super.reads(x) + 3;
        }
    }

    private static class Cry extends Clause {
        Cry(int n) {
            super(n);
        }

        public int cries(int x) {
            ran(30);
            return -super.cries(x);
        }
    }

    private static class Nurse extends Cry {
        Nurse(int n) {
            super(n);
        }

        public int hushes(int x) {
            ran(40);
            return super.hushes(x) * 3;
        }

        public int cries(int x) {
            ran(41);
            return super.cries(x + 1);
        }
    }

    private static final class Rattle extends Cot {
        Rattle(int n) {
            super(n);
        }

        public int tells(int x) {
            ran(50);
            return super.tells(x) ^ 5;
        }
    }

    private static final class Tooth extends Nurse {
        Tooth(int n) {
            super(n);
        }

        public int hushes(int x) {
            ran(60);
            return super.hushes(x) - reads(2);
        }

        public int tells(int x) {
            ran(61);
            return super.tells(x) + 1;
        }
    }

    private static class Twin extends Clause {
        Twin(int n) {
            super(n);
        }

        public int reads(int x) {
            ran(70);
            return super.reads(x) * 2;
        }
    }

    private static final class Nose extends Twin {
        Nose(int n) {
            super(n);
        }

        public int cries(int x) {
            ran(80);
            return super.cries(x) + hushes(2);
        }

        public int reads(int x) {
            ran(81);
            return super.reads(x) - 1;
        }
    }

    private static Clause of(int kind, int n) {
        switch (kind) {
            case 0: return new Clause(n);
            case 1: return new Cot(n);
            case 2: return new Cry(n);
            case 3: return new Nurse(n);
            case 4: return new Rattle(n);
            case 5: return new Tooth(n);
            case 6: return new Twin(n);
            default: return new Nose(n);
        }
    }

    private static int acted(Clause one, int act, int x) {
        RAN.clear();
        if (act == 0) return one.reads(x);
        if (act == 1) return one.cries(x);
        return act == 2 ? one.hushes(x) : one.tells(x);
    }

    public static void main(String[] args) {
        bodies();
        acts();
        refusedActs();
        taken();
        Due.end();
    }

    private static void bodies() {
        CradleVeto x = new CradleVeto();
        Due.is("kind -1", x.body(-1), Due.BAD);
        Due.is("kind 8", x.body(8), Due.BAD);
        for (int i = 0; i < 50; i++) Due.is("body", x.body(i % 8), i);
        Due.is("one more", x.body(0), Due.FULL);
        Due.is("BAD ahead of FULL", x.body(8), Due.BAD);
        Due.is("fifty", x.count(4), 50);
    }

    private static void acts() {
        Random random = new Random(37);
        int[] more = {0, 1, -1, Integer.MAX_VALUE, Integer.MIN_VALUE};
        for (int i = 0; i < 40; i++) {
            CradleVeto x = new CradleVeto();
            Clause[] kept = new Clause[50];
            for (int n = 0; n < 50; n++) {
                int kind = i == 0 ? n % 8 : random.nextInt(8);
                kept[n] = of(kind, n);
                x.body(kind);
            }
            for (int j = 0; j < 32; j++) {
                int n = i == 0 ? j / 4 : random.nextInt(50);
                int act = i == 0 ? j % 4 : random.nextInt(4);
                int told = random.nextInt(3) == 0 ? more[random.nextInt(5)] : random.nextInt();
                int due = acted(kept[n], act, told);
                Due.is("act " + act, x.act(n, act, told), due);
                Due.is("bodies that ran", x.count(5), RAN.size());
                for (int t = 0; t < RAN.size(); t++) Due.is("trace", x.trace(t), RAN.get(t));
                Due.is("no more", x.trace(RAN.size()), Due.BAD);
            }
        }
    }

    private static void refusedActs() {
        CradleVeto x = new CradleVeto();
        x.body(5);
        int[][] refused = {{-1, 0}, {1, 0}, {50, 0}, {0, -1}, {0, 4}, {Integer.MAX_VALUE, Integer.MIN_VALUE}};
        for (int[] each : refused) {
            x.act(0, 3, 1);
            Due.so("a trace", x.count(5) > 0);
            Due.is("act " + each[0] + " " + each[1], x.act(each[0], each[1], 7), 0);
            Due.is("no trace then", x.trace(0), Due.BAD);
            Due.is("none ran", x.count(5), 0);
        }
        x.act(0, 3, 1);
        for (int i : new int[] {-1, 24, 25, Integer.MAX_VALUE, Integer.MIN_VALUE}) Due.is("trace " + i, x.trace(i), Due.BAD);
    }

    private static void taken() {
        Class<?>[] kinds = {Clause.class, Cot.class, Cry.class, Nurse.class, Rattle.class, Tooth.class, Twin.class, Nose.class};
        CradleVeto x = new CradleVeto();
        for (int kind = 0; kind < 8; kind++) {
            x.body(kind);
            x.keep(2, kind);
            for (int k = 0; k < 8; k++) Due.is("taken", x.taken(2, k), kinds[k].isInstance(of(kind, 0)) ? kind : -12);
            Due.is("k -1", x.taken(2, -1), Due.BAD);
            Due.is("k 8", x.taken(2, 8), Due.BAD);
        }
        Due.is("shelf -1", x.taken(-1, 0), Due.BAD);
        Due.is("shelf 6", x.taken(6, 0), Due.BAD);
        Due.is("nothing there", x.taken(0, 0), -11);
        Due.is("BAD ahead of -11", x.taken(0, 8), Due.BAD);
        x.row(0, 0, 3);
        Due.is("a row", x.taken(0, 0), -12);
    }
}
