import java.util.Random;

/** Runs of calls picked by fixed seeds, each answer held against Reference. */
public final class ReferenceTest {
    /** The document promises so many calls of an object, and nothing behind them. */
    private static final int CALLS = 512;
    private static int wrong = 0;
    private int called = 0;
    private final Random dice;
    private final int run, spread;
    private final StarTracker x = new StarTracker();
    private final Reference y = new Reference();

    private ReferenceTest(int run) {
        this.run = run;
        this.dice = new Random(run);
        this.spread = new int[] {1, 3, 10, 40, 100}[dice.nextInt(5)];
    }

    public static void main(String[] args) {
        int runs = args.length > 0 ? Integer.parseInt(args[0]) : 600;
        for (int run = 1; run <= runs && wrong < 20; run++) new ReferenceTest(run).go();
        System.out.println(wrong == 0 ? "as the reference in " + runs + " runs" : wrong + " answers differ");
        if (wrong != 0) System.exit(1);
    }

    private void same(String call, long got, long want, int... args) {
        called++;
        if (got == want) return;
        wrong++;
        System.out.println("run " + run + ": " + call + java.util.Arrays.toString(args) + " answered " + got + ", due is " + want);
    }

    /** Mostly from a to b, at times beyond, rarely far beyond. */
    private int near(int a, int b) {
        int luck = dice.nextInt(60);
        if (luck == 0) return new int[] {Integer.MIN_VALUE, Integer.MAX_VALUE, -1, b + 1, a - 1}[dice.nextInt(5)];
        if (luck < 4) return dice.nextBoolean() ? a - 1 : b + 1;
        return a + dice.nextInt(b - a + 1);
    }

    private int part() { return dice.nextInt(150) == 0 ? near(-100, 100) : dice.nextInt(2 * spread + 1) - spread; }

    /** A call makes less than 100 of the object; the last one that is promised is a digest. */
    private void go() {
        int acts = 10 + dice.nextInt(60);
        int firstStars = dice.nextInt(13);
        for (int i = 0; i < firstStars; i++) add(0);
        if (dice.nextInt(3) > 0) see();
        for (int n = 0; n < acts && called < CALLS - 200 && wrong < 20; n++) call();
        look();
        all();
        while (called < CALLS - 1) same("count", x.count(called % 10), y.count(called % 10), called % 10);
        same("digest", x.digest(), y.digest());
        if (called != CALLS) throw new IllegalStateException("run " + run + " made " + called + " calls");
    }

    /** What the digest has, as far as calls are left, so that a difference is told by name. */
    private void all() {
        for (int w = 0; w < 2; w++) {
            same("better", x.better(w), y.better(w), w);
            same("spare", x.spare(w), y.spare(w), w);
        }
        for (int p = 0; p < y.spots.size(); p++) {
            for (int w = 0; w < 2; w++) {
                same("taken", x.taken(p, w), y.taken(p, w), p, w);
                same("confirmed", x.confirmed(p, w), y.confirmed(p, w), p, w);
            }
        }
        for (int i = 0; i < y.stars.size() && called < CALLS - 10; i++) {
            for (int w = 0; w < 3; w++) {
                same("place", x.place(i, w), y.place(i, w), i, w);
                same("key", x.key(0, 0, 1, i, w), y.key(0, 0, 1, i, w), 0, 0, 1, i, w);
            }
        }
        for (int p = 0; p < y.spots.size(); p++) {
            int[] row = y.now().votes[p];
            for (int i = 0; i < row.length && called < CALLS - 10; i++) same("votes", x.votes(p, i), row[i], p, i);
        }
        while (called < CALLS - 20) {
            int t = near(0, 3), i = near(0, 7), j = near(0, 7), w = near(0, 3);
            same("thing", x.thing(t, i, w), y.thing(t, i, w), t, i, w);
            same("share", x.share(t, i, j), y.share(t, i, j), t, i, j);
        }
    }

    private void add(int kind) {
        int a = part(), b = part(), c = part();
        same("add", x.add(kind, a, b, c), y.add(kind, a, b, c), kind, a, b, c);
    }

    private void see() {
        int top = dice.nextInt(10) == 0 ? 8 : Math.min(8, y.stars.size());
        int n = dice.nextInt(3) == 0 ? near(0, Math.max(0, top)) : top;
        int a = near(0, 3), b = near(0, 3), c = near(0, 3), seed = dice.nextInt(), m = near(0, 3);
        same("see", x.see(n, a, b, c, seed, m), y.see(n, a, b, c, seed, m), n, a, b, c, seed, m);
    }

    private void set() {
        int what = near(0, 3);
        int[] hi = {9999, 9999, 99, 300, 300};
        int h = hi[Math.max(0, Math.min(4, what))];
        int v = dice.nextInt(3) == 0 ? near(1, h) : dice.nextInt(3) == 0 ? near(0, h / 20 + 1) : near(0, 4);
        if (what == 1 && dice.nextInt(3) == 0) v = dice.nextInt(2000);
        if (what == 2 && dice.nextInt(2) == 0) v = 1;
        same("set", x.set(what, v), y.set(what, v), what, v);
    }

    private void call() {
        switch (dice.nextInt(22)) {
            case 0 -> add(near(0, 1));
            case 1 -> add(1);
            case 2 -> { int k = dice.nextInt(4) == 0 ? near(0, 1) : 1; same("back", x.back(k), y.back(k), k); }
            case 3 -> see();
            case 4, 5 -> set();
            case 6 -> { int k = near(0, 1), s = near(0, 3); same("read", x.read(k, s), y.read(k, s), k, s); }
            case 7, 8 -> look();
            case 9 -> { int t = near(0, 3), k = near(0, 1), i = near(0, k == 0 ? 11 : 7);
                same("put", x.put(t, k, i), y.put(t, k, i), t, k, i); }
            case 10 -> { int t = near(0, 3), k = near(0, 1); same("put", x.put(t, k, 0), y.put(t, k, 0), t, k, 0); }
            case 11 -> { if (dice.nextInt(3) == 0) { int a = near(0, 3), b = near(0, 3); same("fork", x.fork(a, b), y.fork(a, b), a, b); } }
            case 12 -> { if (dice.nextInt(3) == 0) { int t = near(0, 3); same("take", x.take(t), y.take(t), t); } }
            case 13 -> { int t = near(0, 3), i = near(0, 7), w = near(0, 3); same("thing", x.thing(t, i, w), y.thing(t, i, w), t, i, w); }
            case 14 -> { int t = near(0, 3), i = near(0, 4), j = near(0, 4); same("share", x.share(t, i, j), y.share(t, i, j), t, i, j); }
            case 15 -> { int s = near(0, 3), f = near(0, 2), n = near(0, dice.nextBoolean() ? 60 : 8);
                same("sheet", x.sheet(s, f, n), y.sheet(s, f, n), s, f, n); }
            case 16 -> { if (dice.nextInt(3) == 0) { int s = near(0, 3); same("lose", x.lose(s), y.lose(s), s); } }
            case 17, 18 -> fill();
            case 19 -> { int s = near(0, 3), f = near(0, 2), i = near(0, 20); same("get", x.get(s, f, i), y.get(s, f, i), s, f, i); }
            case 20 -> { int s = near(0, 3), i = near(0, 6), t = near(0, 3), j = near(0, 6), n = near(0, 6);
                same("copy", x.copy(s, i, t, j, n), y.copy(s, i, t, j, n), s, i, t, j, n); }
            default -> { int s = near(0, 3); same("write", x.write(s), y.write(s), s); }
        }
        same("count", x.count(8), y.count(8), 8);
        if (dice.nextInt(4) == 0) sheets();
    }

    private void fill() {
        int s = near(0, 3), f = Reference.in(s, 0, 3) && y.sheets[s] != null && dice.nextInt(5) > 0 ? y.form(s) : near(0, 2);
        for (int i = 0; i < 6; i++) {
            int at = near(0, 20), v = dice.nextInt(6) == 0 ? dice.nextInt() : part();
            same("lay", x.lay(s, f, at, v), y.lay(s, f, at, v), s, f, at, v);
        }
    }

    private void sheets() {
        int s = dice.nextInt(4);
        if (y.sheets[s] == null) return;
        int f = y.form(s);
        for (int i = 0; i < y.len(s); i++) same("get", x.get(s, f, i), y.get(s, f, i), s, f, i);
    }

    private void look() {
        for (int w = -1; w <= 9; w++) same("count", x.count(w), y.count(w), w);
        for (int w = -1; w <= 4; w++) same("looks", x.looks(w), y.looks(w), w);
        int p = near(0, 7), i = near(0, 11), j = near(0, 11), l = near(0, 11), k = near(0, 2), kind = near(0, 1);
        same("at", x.at(kind, i, k), y.at(kind, i, k), kind, i, k);
        same("side", x.side(kind, i, j), y.side(kind, i, j), kind, i, j);
        same("key", x.key(kind, i, j, l, k), y.key(kind, i, j, l, k), kind, i, j, l, k);
        same("votes", x.votes(p, i), y.votes(p, i), p, i);
        for (int w = -1; w <= 2; w++) {
            same("taken", x.taken(p, w), y.taken(p, w), p, w);
            same("confirmed", x.confirmed(p, w), y.confirmed(p, w), p, w);
        }
        same("place", x.place(i, k), y.place(i, k), i, k);
        same("turn", x.turn(), y.turn());
        same("wrong", x.wrong(), y.wrong());
        int w = near(0, 1);
        if (dice.nextInt(4) == 0) same("better", x.better(w), y.better(w), w);
        if (dice.nextInt(4) == 0) same("spare", x.spare(w), y.spare(w), w);
    }
}
