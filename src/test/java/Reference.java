import java.math.BigInteger;
import java.util.ArrayList;
import java.util.List;

/**
 * The document once more, as plainly as it can be said,
 * so that it shares no shortcut with the class under test.
 */
final class Reference {
    static final int LEAST_INT = Integer.MIN_VALUE;

    record Dir(int x, int y, int z) {
        int get(int what) { return what == 0 ? x : what == 1 ? y : z; }
    }
    record Thing(boolean spot, Dir d) { }
    record Pair(int spot, int star) { }

    static final class Tray {
        boolean stars, spots;
        List<Thing> things = new ArrayList<>();
        Tray(boolean stars, boolean spots) { this.stars = stars; this.spots = spots; }
    }

    /** What follows from stars, spots and settings. */
    static final class Result {
        int looked, matched;
        int[][] votes;
        List<Pair> taken = new ArrayList<>();
        boolean turn;
        long[][] place;
        int[] star, far;
        int confirmed() {
            int n = 0;
            for (int s : star) if (s >= 0) n++;
            return n;
        }
        int wrong() {
            int bits = 0;
            for (Pair p : taken) if (star[p.spot()] != p.star()) bits |= 1 << p.spot();
            return bits;
        }
    }

    final List<Dir> stars = new ArrayList<>(), spots = new ArrayList<>();
    final int[] settings = {400, 200, 1, 20};
    final Tray[] trays = {new Tray(true, false), new Tray(false, true), new Tray(true, true), new Tray(true, true)};
    /** A byte[], a short[], an int[], or null. */
    final Object[] sheets = new Object[4];
    int finding = 0;

    List<Dir> list(int kind) { return kind == 0 ? stars : spots; }
    static boolean in(int v, int a, int b) { return a <= v && v <= b; }
    boolean one(int kind, int i) { return in(kind, 0, 1) && i >= 0 && i < list(kind).size(); }
    int found(int n) { finding = n; return -10 - n; }
    static boolean dir(int x, int y, int z) {
        return in(x, -100, 100) && in(y, -100, 100) && in(z, -100, 100) && !(x == 0 && y == 0 && z == 0);
    }

    int add(int kind, int x, int y, int z) {
        if (!in(kind, 0, 1) || !dir(x, y, z)) return -2;
        if (list(kind).size() == (kind == 0 ? 12 : 8)) return -4;
        list(kind).add(new Dir(x, y, z));
        return list(kind).size();
    }
    int back(int kind) {
        if (!in(kind, 0, 1)) return -2;
        if (list(kind).isEmpty()) return -3;
        list(kind).remove(list(kind).size() - 1);
        return list(kind).size();
    }
    int at(int kind, int i, int what) {
        return one(kind, i) && in(what, 0, 2) ? list(kind).get(i).get(what) : LEAST_INT;
    }
    int read(int kind, int s) {
        if (!in(kind, 0, 1) || !in(s, 0, 3)) return -2;
        if (sheets[s] == null) return found(1);
        int n = 0;
        while (3 * n + 2 < len(s) && add(kind, item(s, 3 * n), item(s, 3 * n + 1), item(s, 3 * n + 2)) > 0) n++;
        return n;
    }
    int see(int n, int a, int b, int c, int seed, int m) {
        if (!in(n, 0, 8) || n > stars.size() || !in(a, 0, 3) || !in(b, 0, 3) || !in(c, 0, 3) || !in(m, 0, 3)) return -2;
        spots.clear();
        int lots = seed;
        for (int i = 0; i < n; i++) {
            int x = stars.get(i).x(), y = stars.get(i).y(), z = stars.get(i).z();
            for (int k = 0; k < a; k++) { int y1 = -z, z1 = y; y = y1; z = z1; }
            for (int k = 0; k < b; k++) { int x1 = z, z1 = -x; x = x1; z = z1; }
            for (int k = 0; k < c; k++) { int x1 = -y, y1 = x; x = x1; y = y1; }
            int[] d = {x, y, z};
            if (m > 0) {
                for (int k = 0; k < 3; k++) {
                    lots = 1103515245 * lots + 12345;
                    int up = (lots >> 16) & 0xFFFF;
                    d[k] += up % (2 * m + 1) - m;
                    if (d[k] > 100) d[k] = 100;
                    if (d[k] < -100) d[k] = -100;
                }
                if (d[0] == 0 && d[1] == 0 && d[2] == 0) d[2] = 1;
            }
            spots.add(new Dir(d[0], d[1], d[2]));
        }
        return n;
    }
    int set(int what, int v) {
        int[] lo = {1, 0, 1, 0}, hi = {9999, 9999, 99, 300};
        if (!in(what, 0, 3) || !in(v, lo[what], hi[what])) return -2;
        int was = settings[what];
        settings[what] = v;
        return was;
    }

    static int sideOf(Dir a, Dir b) {
        int x = a.x() - b.x(), y = a.y() - b.y(), z = a.z() - b.z();
        return x * x + y * y + z * z;
    }
    int side(int kind, int i, int j) {
        return one(kind, i) && one(kind, j) ? sideOf(list(kind).get(i), list(kind).get(j)) : -2;
    }
    int[] keyOf(Dir a, Dir b, Dir c) {
        int[] k = {sideOf(a, b), sideOf(b, c), sideOf(a, c)};
        java.util.Arrays.sort(k);
        for (int i = 0; i < 3; i++) k[i] /= settings[0];
        return k;
    }
    int key(int kind, int a, int b, int c, int k) {
        if (!one(kind, a) || !one(kind, b) || !one(kind, c) || a == b || b == c || a == c || !in(k, 0, 2)) return -2;
        return keyOf(list(kind).get(a), list(kind).get(b), list(kind).get(c))[k];
    }

    Result result(List<Dir> seen, int tolerance) {
        Result r = new Result();
        r.votes = new int[seen.size()][stars.size()];
        for (int p = 0; p < seen.size(); p++)
            for (int q = p + 1; q < seen.size(); q++)
                for (int s = q + 1; s < seen.size(); s++)
                    for (int i = 0; i < stars.size(); i++)
                        for (int j = i + 1; j < stars.size(); j++)
                            for (int k = j + 1; k < stars.size(); k++)
                                look(r, seen, tolerance, new int[] {p, q, s}, new int[] {i, j, k});
        take(r, seen);
        turnAndPlaces(r, seen);
        confirm(r, seen);
        return r;
    }
    void look(Result r, List<Dir> seen, int tolerance, int[] p, int[] t) {
        int[] a = keyOf(seen.get(p[0]), seen.get(p[1]), seen.get(p[2]));
        int[] b = keyOf(stars.get(t[0]), stars.get(t[1]), stars.get(t[2]));
        for (int n = 0; n < 3; n++) if (Math.abs(a[n] - b[n]) > 1) return;
        r.looked++;
        for (int i : t) for (int j : t) for (int k : t) {
            if (i == j || j == k || i == k) continue;
            if (Math.abs(sideOf(seen.get(p[0]), seen.get(p[1])) - sideOf(stars.get(i), stars.get(j))) > tolerance) continue;
            if (Math.abs(sideOf(seen.get(p[1]), seen.get(p[2])) - sideOf(stars.get(j), stars.get(k))) > tolerance) continue;
            if (Math.abs(sideOf(seen.get(p[0]), seen.get(p[2])) - sideOf(stars.get(i), stars.get(k))) > tolerance) continue;
            r.matched++;
            r.votes[p[0]][i]++;
            r.votes[p[1]][j]++;
            r.votes[p[2]][k]++;
        }
    }
    void take(Result r, List<Dir> seen) {
        List<Pair> all = new ArrayList<>();
        for (int p = 0; p < seen.size(); p++)
            for (int i = 0; i < stars.size(); i++)
                if (r.votes[p][i] >= settings[2]) all.add(new Pair(p, i));
        // A stable sort: like ones stay by the least spot, then the least star.
        all.sort((a, b) -> r.votes[b.spot()][b.star()] - r.votes[a.spot()][a.star()]);
        for (Pair a : all) {
            boolean free = true;
            for (Pair t : r.taken) if (t.spot() == a.spot() || t.star() == a.star()) free = false;
            if (free) r.taken.add(a);
        }
    }
    static BigInteger big(long v) { return BigInteger.valueOf(v); }
    static BigInteger[] vector(Dir d) { return new BigInteger[] {big(d.x()), big(d.y()), big(d.z())}; }
    static BigInteger dot(BigInteger[] a, BigInteger[] b) {
        return a[0].multiply(b[0]).add(a[1].multiply(b[1])).add(a[2].multiply(b[2]));
    }
    static BigInteger[] by(BigInteger[] a, BigInteger[] b) {
        return new BigInteger[] {
            a[1].multiply(b[2]).subtract(a[2].multiply(b[1])),
            a[2].multiply(b[0]).subtract(a[0].multiply(b[2])),
            a[0].multiply(b[1]).subtract(a[1].multiply(b[0]))};
    }
    static BigInteger[][] arms(Dir first, Dir second) {
        BigInteger[] a = vector(first), ab = by(a, vector(second));
        return new BigInteger[][] {a, ab, by(a, ab)};
    }
    static BigInteger floorDiv(BigInteger a, BigInteger b) {
        BigInteger[] q = a.divideAndRemainder(b);
        return q[1].signum() < 0 ? q[0].subtract(BigInteger.ONE) : q[0];
    }
    void turnAndPlaces(Result r, List<Dir> seen) {
        if (r.taken.size() < 2) return;
        Pair one = r.taken.get(0), two = r.taken.get(1);
        BigInteger[][] g = arms(seen.get(one.spot()), seen.get(two.spot()));
        BigInteger[][] f = arms(stars.get(one.star()), stars.get(two.star()));
        if (dot(g[1], g[1]).signum() == 0 || dot(f[1], f[1]).signum() == 0) return;
        r.turn = true;
        r.place = new long[stars.size()][3];
        for (int i = 0; i < stars.size(); i++)
            for (int w = 0; w < 3; w++) {
                BigInteger top = BigInteger.ZERO, bottom = BigInteger.ONE;
                for (int n = 0; n < 3; n++) {
                    BigInteger t = dot(vector(stars.get(i)), f[n]).multiply(g[n][w]), b = dot(f[n], f[n]);
                    top = top.multiply(b).add(t.multiply(bottom));
                    bottom = bottom.multiply(b);
                }
                r.place[i][w] = floorDiv(top.add(top).add(bottom), bottom.add(bottom)).longValueExact();
            }
    }
    void confirm(Result r, List<Dir> seen) {
        r.star = new int[seen.size()];
        r.far = new int[seen.size()];
        boolean[] used = new boolean[stars.size()];
        for (int p = 0; p < seen.size(); p++) {
            r.star[p] = r.far[p] = -1;
            for (int i = 0; r.turn && i < stars.size(); i++) {
                long far = 0;
                for (int w = 0; w < 3; w++) far += Math.abs(r.place[i][w] - seen.get(p).get(w));
                if (used[i] || far > settings[3] || r.star[p] >= 0 && r.far[p] <= far) continue;
                r.star[p] = i;
                r.far[p] = (int) far;
            }
            if (r.star[p] >= 0) used[r.star[p]] = true;
        }
    }

    private List<Object> askedOf = List.of();
    private Result answer;
    /** Kept only as long as all that it comes from is alike. */
    Result now() {
        List<Object> of = List.of(List.copyOf(stars), List.copyOf(spots), settings[0], settings[1], settings[2], settings[3]);
        if (!of.equals(askedOf)) {
            answer = result(spots, settings[1]);
            askedOf = of;
        }
        return answer;
    }

    int looks(int what) {
        int n = stars.size(), m = spots.size();
        return switch (what) {
            case 0 -> n * (n - 1) * (n - 2) / 6;
            case 1 -> m * (m - 1) * (m - 2) / 6;
            case 2 -> now().looked;
            case 3 -> now().matched;
            default -> -2;
        };
    }
    int votes(int spot, int star) { return one(1, spot) && one(0, star) ? now().votes[spot][star] : -2; }
    int taken(int spot, int what) {
        if (!one(1, spot) || !in(what, 0, 1)) return -2;
        List<Pair> t = now().taken;
        for (int i = 0; i < t.size(); i++) if (t.get(i).spot() == spot) return what == 0 ? t.get(i).star() : i;
        return -1;
    }
    int turn() { return now().turn ? 1 : 0; }
    int place(int star, int what) {
        if (!one(0, star) || !in(what, 0, 2)) return LEAST_INT;
        Result r = now();
        return r.turn ? Math.toIntExact(r.place[star][what]) : LEAST_INT;
    }
    int confirmed(int spot, int what) {
        if (!one(1, spot) || !in(what, 0, 1)) return -2;
        return what == 0 ? now().star[spot] : now().far[spot];
    }
    int wrong() { return now().wrong(); }
    int better(int what) {
        if (!in(what, 0, 1)) return -2;
        int best = -1, by = 0;
        for (int t = 0; t <= 1000; t += 50) {
            int n = result(spots, t).confirmed();
            if (n > best) { best = n; by = t; }
        }
        return what == 0 ? by : best;
    }
    int spare(int what) {
        if (!in(what, 0, 1)) return -2;
        int best = -1, by = -1;
        for (int p = 0; p < spots.size(); p++) {
            List<Dir> others = new ArrayList<>(spots);
            others.remove(p);
            int n = result(others, settings[1]).confirmed();
            if (n > best) { best = n; by = p; }
        }
        return what == 0 ? by : best;
    }

    int put(int tray, int kind, int i) {
        if (!in(tray, 0, 3) || !one(kind, i)) return -2;
        if (trays[tray].things.size() == 8) return -4;
        if (kind == 0 ? !trays[tray].stars : !trays[tray].spots) return found(4);
        trays[tray].things.add(new Thing(kind == 1, list(kind).get(i)));
        return trays[tray].things.size();
    }
    int fork(int a, int b) {
        if (!in(a, 0, 3) || !in(b, 0, 3)) return -2;
        Tray t = new Tray(trays[a].stars, trays[a].spots);
        t.things.addAll(trays[a].things);
        trays[b] = t;
        return t.things.size();
    }
    int take(int tray) {
        if (!in(tray, 0, 3)) return -2;
        List<Thing> t = trays[tray].things;
        if (t.isEmpty()) return -3;
        t.remove(t.size() - 1);
        return t.size();
    }
    Thing thingAt(int tray, int i) {
        if (!in(tray, 0, 3) || i < 0 || i >= trays[tray].things.size()) return null;
        return trays[tray].things.get(i);
    }
    int thing(int tray, int i, int what) {
        Thing t = thingAt(tray, i);
        if (t == null || !in(what, 0, 3)) return LEAST_INT;
        return what == 0 ? (t.spot() ? 1 : 0) : t.d().get(what - 1);
    }
    int share(int tray, int i, int j) {
        Thing a = thingAt(tray, i), b = thingAt(tray, j);
        if (a == null || b == null) return LEAST_INT;
        float top = dot(vector(a.d()), vector(b.d())).intValue();
        float bottom = dot(vector(a.d()), vector(a.d())).intValue();
        return Float.floatToRawIntBits(top / bottom);
    }

    int len(int s) { return java.lang.reflect.Array.getLength(sheets[s]); }
    int item(int s, int i) { return java.lang.reflect.Array.getInt(sheets[s], i); }
    void lay(int s, int i, int v) {
        if (sheets[s] instanceof byte[] b) b[i] = (byte) v;
        else if (sheets[s] instanceof short[] h) h[i] = (short) v;
        else if (sheets[s] instanceof int[] w) w[i] = v;
    }
    int form(int s) { return sheets[s] instanceof byte[] ? 0 : sheets[s] instanceof short[] ? 1 : 2; }
    int sheet(int s, int form, int n) {
        if (!in(s, 0, 3) || !in(form, 0, 2) || n > 60) return -2;
        if (n < 0) return found(5);
        if (form == 0) sheets[s] = new byte[n];
        else if (form == 1) sheets[s] = new short[n];
        else sheets[s] = new int[n];
        return n;
    }
    int lose(int s) {
        if (!in(s, 0, 3)) return -2;
        if (sheets[s] == null) return found(1);
        int n = len(s);
        sheets[s] = null;
        return n;
    }
    int fault(int s, int form, int i) {
        if (sheets[s] == null) return 1;
        if (form(s) != form) return 3;
        return i < 0 || i >= len(s) ? 2 : 0;
    }
    int lay(int s, int form, int i, int v) {
        if (!in(s, 0, 3) || !in(form, 0, 2)) return -2;
        if (fault(s, form, i) != 0) return found(fault(s, form, i));
        lay(s, i, v);
        return 1;
    }
    int get(int s, int form, int i) {
        if (!in(s, 0, 3) || !in(form, 0, 2)) return LEAST_INT;
        if (fault(s, form, i) != 0) { found(fault(s, form, i)); return LEAST_INT; }
        return item(s, i);
    }
    int copy(int s, int i, int t, int j, int n) {
        if (!in(s, 0, 3) || !in(t, 0, 3)) return -2;
        if (sheets[s] == null || sheets[t] == null) return found(1);
        if (form(s) != form(t)) return found(4);
        if (i < 0 || j < 0 || n < 0 || (long) i + n > len(s) || (long) j + n > len(t)) return found(2);
        System.arraycopy(sheets[s], i, sheets[t], j, n);
        return 1;
    }
    int write(int s) {
        if (!in(s, 0, 3)) return -2;
        if (sheets[s] == null) return found(1);
        Result r = now();
        int n = 0;
        for (; n < len(s) && n < spots.size(); n++) lay(s, n, r.star[n]);
        return n;
    }
    int count(int what) {
        int things = 0;
        for (Tray t : trays) things += t.things.size();
        return switch (what) {
            case 0 -> stars.size();
            case 1 -> spots.size();
            case 2 -> now().taken.size();
            case 3 -> now().confirmed();
            case 4 -> {
                int n = 0;
                for (int[] row : now().votes) for (int v : row) n += v;
                yield n;
            }
            case 5 -> settings[1];
            case 6 -> things;
            case 7 -> Integer.bitCount(wrong());
            case 8 -> finding;
            default -> -2;
        };
    }
    long digest() {
        List<Integer> all = new ArrayList<>();
        for (int w = 0; w < 8; w++) all.add(count(w));
        for (int w = 0; w < 4; w++) all.add(looks(w));
        for (int p = 0; p < spots.size(); p++) {
            all.add(taken(p, 0)); all.add(taken(p, 1)); all.add(confirmed(p, 0)); all.add(confirmed(p, 1));
            int[] row = now().votes[p];
            for (int v : row) all.add(v);
        }
        for (int i = 0; i < stars.size(); i++) {
            for (int w = 0; w < 3; w++) all.add(place(i, w));
            for (int k = 0; k < 3; k++) all.add(key(0, 0, 1, i, k));
        }
        all.add(turn()); all.add(wrong());
        all.add(better(0)); all.add(better(1)); all.add(spare(0)); all.add(spare(1));
        for (int t = 0; t < 4; t++)
            for (int i = 0; i < 4; i++) {
                for (int w = 0; w < 4; w++) all.add(thing(t, i, w));
                all.add(share(t, 0, i));
            }
        long h = 17;
        for (int v : all) h = 31 * h + v;
        return h;
    }
}
