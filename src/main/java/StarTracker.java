import java.util.Arrays;

/** Star tracker matcher; the words in its comments are those of the document. */
public final class StarTracker {
    public static final int NONE = -1, BAD = -2, NOT = -3, FULL = -4;

    private static final int LEAST_INT = -2147483648;
    private static final int MAX_STARS = 12, MAX_SPOTS = 8, MAX_PART = 100;
    private static final int MAX_PAIRS = MAX_SPOTS * MAX_STARS;
    private static final int MAX_STAR_TRIANGLES = 220;
    private static final int STAR = 0, SPOT = 1;

    private static final int BUCKET = 0, TOLERANCE = 1, LEAST = 2, NEAR = 3;
    private static final int[] FIRST_SETTINGS = {400, 200, 1, 20};
    private static final int[] LOWEST_SETTINGS = {1, 0, 1, 0};
    private static final int[] HIGHEST_SETTINGS = {9999, 9999, 99, 300};

    private static final int BETTER_STEP = 50, BETTER_STEPS = 21;
    private static final int[] ORDERS = {0, 1, 2, 0, 2, 1, 1, 0, 2, 1, 2, 0, 2, 0, 1, 2, 1, 0};
    private static final int MAX_QUARTERS = 3, MAX_NOISE = 3;

    private static final int TRAYS = 4, TRAY_ROOM = 8;
    private static final int SHEETS = 4, SHEET_ROOM = 60;
    private static final int BYTES = 0, SHORTS = 1, INTS = 2, LOST = -1;
    private static final int NULL = 1, INDEX = 2, CAST = 3, STORE = 4, SIZE = 5;

    private final Sight sight = new Sight();
    private final Tray[] trays = new Tray[TRAYS];
    private final Sheet[] sheets = new Sheet[SHEETS];
    private int latestFinding;

    public StarTracker() {
        for (int t = 0; t < TRAYS; t++) {
            trays[t] = new Tray(t != 1, t != 0);
        }
        for (int s = 0; s < SHEETS; s++) {
            sheets[s] = new Sheet();
        }
    }

    // ---- stars, spots

    public int add(int kind, int x, int y, int z) {
        if (!isKind(kind) || !mayBeDirection(x, y, z)) {
            return BAD;
        }
        Directions row = sight.rowOf(kind);
        if (row.isFull()) {
            return FULL;
        }
        row.append(x, y, z);
        sight.forget();
        return row.size();
    }

    public int back(int kind) {
        if (!isKind(kind)) {
            return BAD;
        }
        Directions row = sight.rowOf(kind);
        if (row.size() == 0) {
            return NOT;
        }
        row.dropLast();
        sight.forget();
        return row.size();
    }

    public int at(int kind, int i, int what) {
        if (!isOne(kind, i) || !isWithin(what, 0, 2)) {
            return LEAST_INT;
        }
        return sight.rowOf(kind).part(i, what);
    }

    public int read(int kind, int s) {
        if (!isKind(kind) || !isSheet(s)) {
            return BAD;
        }
        Sheet from = sheets[s];
        if (from.isLost()) {
            return find(NULL);
        }
        Directions row = sight.rowOf(kind);
        int before = row.size();
        sight.forget();
        for (int i = 0; i + 2 < from.length() && !row.isFull(); i += 3) {
            int x = from.item(i), y = from.item(i + 1), z = from.item(i + 2);
            if (!mayBeDirection(x, y, z)) {
                break;
            }
            row.append(x, y, z);
        }
        return row.size() - before;
    }

    public int see(int n, int a, int b, int c, int seed, int m) {
        if (!isWithin(n, 0, MAX_SPOTS) || n > sight.stars.size() || !isWithin(m, 0, MAX_NOISE)) {
            return BAD;
        }
        if (!isWithin(a, 0, MAX_QUARTERS) || !isWithin(b, 0, MAX_QUARTERS) || !isWithin(c, 0, MAX_QUARTERS)) {
            return BAD;
        }
        sight.spots.empty();
        sight.forget();
        int lots = seed;
        for (int i = 0; i < n; i++) {
            sight.spots.append(sight.stars.part(i, 0), sight.stars.part(i, 1), sight.stars.part(i, 2));
            sight.spots.quarter(i, 0, a);
            sight.spots.quarter(i, 1, b);
            sight.spots.quarter(i, 2, c);
            lots = sight.spots.blur(i, m, lots);
        }
        return n;
    }

    public int set(int what, int v) {
        if (!isWithin(what, BUCKET, NEAR) || !isWithin(v, LOWEST_SETTINGS[what], HIGHEST_SETTINGS[what])) {
            return BAD;
        }
        int was = sight.settings[what];
        sight.settings[what] = v;
        sight.forget();
        return was;
    }

    // ---- triangles, votes

    public int side(int kind, int i, int j) {
        if (!isOne(kind, i) || !isOne(kind, j)) {
            return BAD;
        }
        return sight.rowOf(kind).sideOf(i, j);
    }

    public int key(int kind, int a, int b, int c, int k) {
        if (!isOne(kind, a) || !isOne(kind, b) || !isOne(kind, c) || !isWithin(k, 0, 2)) {
            return BAD;
        }
        if (a == b || b == c || a == c) {
            return BAD;
        }
        Directions row = sight.rowOf(kind);
        return keyNumber(k, row.sideOf(a, b), row.sideOf(b, c), row.sideOf(a, c), sight.settings[BUCKET]);
    }

    public int looks(int what) {
        switch (what) {
            case 0:
                return trianglesOf(sight.stars.size());
            case 1:
                return trianglesOf(sight.spots.size());
            case 2:
                return sight.known().lookedAt;
            case 3:
                return sight.known().matched;
            default:
                return BAD;
        }
    }

    public int votes(int spot, int star) {
        if (!isOne(SPOT, spot) || !isOne(STAR, star)) {
            return BAD;
        }
        return sight.known().plain.table[pairOf(spot, star)];
    }

    public int taken(int spot, int what) {
        if (!isOne(SPOT, spot) || !isWithin(what, 0, 1)) {
            return BAD;
        }
        Fix fix = sight.known().fix;
        return what == 0 ? fix.takenStar[spot] : fix.takenRank[spot];
    }

    // ---- the turn

    public int turn() {
        return sight.known().fix.turned ? 1 : 0;
    }

    public int place(int star, int what) {
        if (!isOne(STAR, star) || !isWithin(what, 0, 2)) {
            return LEAST_INT;
        }
        Fix fix = sight.known().fix;
        return fix.turned ? fix.places[3 * star + what] : LEAST_INT;
    }

    public int confirmed(int spot, int what) {
        if (!isOne(SPOT, spot) || !isWithin(what, 0, 1)) {
            return BAD;
        }
        Fix fix = sight.known().fix;
        return what == 0 ? fix.confirmedStar[spot] : fix.confirmedFar[spot];
    }

    public int wrong() {
        return sight.known().fix.wrongBits();
    }

    public int better(int what) {
        if (!isWithin(what, 0, 1)) {
            return BAD;
        }
        sight.findBetter();
        return what == 0 ? sight.betterTolerance : sight.betterConfirmed;
    }

    public int spare(int what) {
        if (!isWithin(what, 0, 1)) {
            return BAD;
        }
        sight.findSpare();
        return what == 0 ? sight.spareSpot : sight.spareConfirmed;
    }

    // ---- trays

    public int put(int tray, int kind, int i) {
        if (!isTray(tray) || !isOne(kind, i)) {
            return BAD;
        }
        Tray to = trays[tray];
        if (to.size == TRAY_ROOM) {
            return FULL;
        }
        if (!to.holds(kind)) {
            return find(STORE);
        }
        Directions row = sight.rowOf(kind);
        to.append(kind, row.part(i, 0), row.part(i, 1), row.part(i, 2));
        return to.size;
    }

    public int fork(int a, int b) {
        if (!isTray(a) || !isTray(b)) {
            return BAD;
        }
        trays[b].become(trays[a]);
        return trays[b].size;
    }

    public int take(int tray) {
        if (!isTray(tray)) {
            return BAD;
        }
        if (trays[tray].size == 0) {
            return NOT;
        }
        trays[tray].size--;
        return trays[tray].size;
    }

    public int thing(int tray, int i, int what) {
        if (!isTray(tray) || !trays[tray].has(i) || !isWithin(what, 0, 3)) {
            return LEAST_INT;
        }
        return trays[tray].column(i, what);
    }

    public int share(int tray, int i, int j) {
        if (!isTray(tray) || !trays[tray].has(i) || !trays[tray].has(j)) {
            return LEAST_INT;
        }
        return floatBits(trays[tray].product(i, j), trays[tray].product(i, i));
    }

    // ---- sheets

    public int sheet(int s, int form, int n) {
        if (!isSheet(s) || !isForm(form) || n > SHEET_ROOM) {
            return BAD;
        }
        if (n < 0) {
            return find(SIZE);
        }
        sheets[s].renew(form, n);
        return n;
    }

    public int lose(int s) {
        if (!isSheet(s)) {
            return BAD;
        }
        if (sheets[s].isLost()) {
            return find(NULL);
        }
        int had = sheets[s].length();
        sheets[s].renew(LOST, 0);
        return had;
    }

    public int lay(int s, int form, int i, int v) {
        if (!isSheet(s) || !isForm(form)) {
            return BAD;
        }
        int fault = sheets[s].faultOf(form, i);
        if (fault != 0) {
            return find(fault);
        }
        sheets[s].store(i, v);
        return 1;
    }

    public int get(int s, int form, int i) {
        if (!isSheet(s) || !isForm(form)) {
            return LEAST_INT;
        }
        int fault = sheets[s].faultOf(form, i);
        if (fault != 0) {
            find(fault);
            return LEAST_INT;
        }
        return sheets[s].item(i);
    }

    public int copy(int s, int i, int t, int j, int n) {
        if (!isSheet(s) || !isSheet(t)) {
            return BAD;
        }
        Sheet from = sheets[s], to = sheets[t];
        if (from.isLost() || to.isLost()) {
            return find(NULL);
        }
        if (from.form != to.form) {
            return find(STORE);
        }
        if (!from.hasRun(i, n) || !to.hasRun(j, n)) {
            return find(INDEX);
        }
        to.takeRun(from, i, j, n);
        return 1;
    }

    public int write(int s) {
        if (!isSheet(s)) {
            return BAD;
        }
        Sheet to = sheets[s];
        if (to.isLost()) {
            return find(NULL);
        }
        Fix fix = sight.known().fix;
        int n = Math.min(to.length(), sight.spots.size());
        for (int i = 0; i < n; i++) {
            to.store(i, fix.confirmedStar[i]);
        }
        return n;
    }

    public int count(int what) {
        switch (what) {
            case 0:
                return sight.stars.size();
            case 1:
                return sight.spots.size();
            case 2:
                return sight.known().fix.takenCount;
            case 3:
                return sight.known().fix.confirmedCount;
            case 4:
                return 3 * sight.known().matched;
            case 5:
                return sight.settings[TOLERANCE];
            case 6:
                return trays[0].size + trays[1].size + trays[2].size + trays[3].size;
            case 7:
                return Integer.bitCount(sight.known().fix.wrongBits());
            case 8:
                return latestFinding;
            default:
                return BAD;
        }
    }

    public long digest() {
        long h = 17;
        for (int what = 0; what <= 7; what++) {
            h = 31 * h + count(what);
        }
        for (int what = 0; what <= 3; what++) {
            h = 31 * h + looks(what);
        }
        for (int spot = 0; spot < sight.spots.size(); spot++) {
            h = 31 * h + taken(spot, 0);
            h = 31 * h + taken(spot, 1);
            h = 31 * h + confirmed(spot, 0);
            h = 31 * h + confirmed(spot, 1);
            for (int star = 0; star < sight.stars.size(); star++) {
                h = 31 * h + votes(spot, star);
            }
        }
        for (int star = 0; star < sight.stars.size(); star++) {
            for (int what = 0; what <= 2; what++) {
                h = 31 * h + place(star, what);
            }
            for (int k = 0; k <= 2; k++) {
                h = 31 * h + key(STAR, 0, 1, star, k);
            }
        }
        h = 31 * h + turn();
        h = 31 * h + wrong();
        h = 31 * h + better(0);
        h = 31 * h + better(1);
        h = 31 * h + spare(0);
        h = 31 * h + spare(1);
        for (int tray = 0; tray < TRAYS; tray++) {
            for (int i = 0; i <= 3; i++) {
                for (int what = 0; what <= 3; what++) {
                    h = 31 * h + thing(tray, i, what);
                }
                h = 31 * h + share(tray, 0, i);
            }
        }
        return h;
    }

    // ---- what the calls look at

    private int find(int number) {
        latestFinding = number;
        return -10 - number;
    }

    private boolean isOne(int kind, int i) {
        return isKind(kind) && sight.rowOf(kind).has(i);
    }

    private static boolean isKind(int kind) {
        return kind == STAR || kind == SPOT;
    }

    private static boolean isTray(int tray) {
        return isWithin(tray, 0, TRAYS - 1);
    }

    private static boolean isSheet(int s) {
        return isWithin(s, 0, SHEETS - 1);
    }

    private static boolean isForm(int form) {
        return isWithin(form, BYTES, INTS);
    }

    private static boolean isWithin(int v, int lowest, int highest) {
        return v >= lowest && v <= highest;
    }

    private static boolean mayBeDirection(int x, int y, int z) {
        return isWithin(x, -MAX_PART, MAX_PART) && isWithin(y, -MAX_PART, MAX_PART)
            && isWithin(z, -MAX_PART, MAX_PART) && (x != 0 || y != 0 || z != 0);
    }

    private static int trianglesOf(int n) {
        return n * (n - 1) * (n - 2) / 6;
    }

    private static int pairOf(int spot, int star) {
        return spot * MAX_STARS + star;
    }

    private static int keyNumber(int k, int first, int second, int third, int bucket) {
        int low = Math.min(first, Math.min(second, third));
        int high = Math.max(first, Math.max(second, third));
        int length = k == 0 ? low : k == 2 ? high : first + second + third - low - high;
        return bucket < 1 ? 0 : length / bucket;
    }

    /** By whole numbers, as no call of the library that tells a float's bits is ours to use. */
    private static int floatBits(int top, int bottom) {
        if (top == 0 || bottom < 1) {
            return 0;
        }
        long over = Math.abs((long) top), under = bottom;
        int power = 0;
        while (power < 20 && over >= 2 * under) {
            under *= 2;
            power++;
        }
        while (power > -20 && over < under) {
            over *= 2;
            power--;
        }
        long digits = (over << 23) / under;
        long rest = 2 * ((over << 23) % under);
        if (rest > under || rest == under && digits % 2 == 1) {
            digits++;
        }
        // Added, not joined: digits that were rounded up to the next power carry into the exponent.
        int bits = ((power + 127) << 23) + (int) (digits - (1 << 23));
        return top < 0 ? bits | LEAST_INT : bits;
    }

    /** Stars, or spots, in their order. */
    private static final class Directions {
        private final int[] parts;
        private final int room;
        private int size;

        Directions(int room) {
            this.room = Math.max(room, 0);
            this.parts = new int[3 * this.room];
        }

        int size() {
            return size;
        }

        boolean isFull() {
            return size >= room;
        }

        boolean has(int i) {
            return i >= 0 && i < size;
        }

        int part(int i, int what) {
            return has(i) && isWithin(what, 0, 2) ? parts[3 * i + what] : 0;
        }

        void append(int x, int y, int z) {
            if (isFull()) {
                return;
            }
            parts[3 * size] = x;
            parts[3 * size + 1] = y;
            parts[3 * size + 2] = z;
            size++;
        }

        void dropLast() {
            if (size > 0) {
                size--;
            }
        }

        void empty() {
            size = 0;
        }

        /** Around x (axis 0), y (1), z (2). */
        void quarter(int i, int axis, int times) {
            if (!has(i) || !isWithin(axis, 0, 2)) {
                return;
            }
            int next = 3 * i + (axis + 1) % 3, last = 3 * i + (axis + 2) % 3;
            for (int n = 0; n < times; n++) {
                int was = parts[next];
                parts[next] = -parts[last];
                parts[last] = was;
            }
        }

        /** Answers what the seed became. */
        int blur(int i, int m, int seed) {
            if (!has(i) || m < 1) {
                return seed;
            }
            int lots = seed;
            for (int at = 3 * i; at < 3 * i + 3; at++) {
                lots = 1103515245 * lots + 12345;
                int moved = parts[at] + (lots >>> 16) % (2 * m + 1) - m;
                parts[at] = Math.max(-MAX_PART, Math.min(MAX_PART, moved));
            }
            if (parts[3 * i] == 0 && parts[3 * i + 1] == 0 && parts[3 * i + 2] == 0) {
                parts[3 * i + 2] = 1;
            }
            return lots;
        }

        int sideOf(int i, int j) {
            int x = part(i, 0) - part(j, 0), y = part(i, 1) - part(j, 1), z = part(i, 2) - part(j, 2);
            return x * x + y * y + z * z;
        }

        /** The table has a row of as many sides as there is room. */
        void fillSides(int[] table) {
            if (table.length < room * room) {
                return;
            }
            for (int i = 0; i < size; i++) {
                for (int j = 0; j < size; j++) {
                    table[i * room + j] = sideOf(i, j);
                }
            }
        }
    }

    /** Hears of every order of every two triangles that are looked at: its pairs, and the least tolerance by which it matches. */
    private abstract static class Tally {
        abstract void hear(int first, int second, int third, int need);
    }

    /** Votes by one tolerance. */
    private static final class PlainTally extends Tally {
        private final int[] table = new int[MAX_PAIRS];
        private int tolerance;
        private int matched;

        void begin(int newTolerance) {
            Arrays.fill(table, 0);
            tolerance = newTolerance;
            matched = 0;
        }

        void hear(int first, int second, int third, int need) {
            if (need <= tolerance) {
                table[first]++;
                table[second]++;
                table[third]++;
                matched++;
            }
        }
    }

    /** Votes that each tolerance of BETTER has more than the one below it, so that one walk does for all. */
    private static final class StepTally extends Tally {
        private final int[][] tables = new int[BETTER_STEPS][MAX_PAIRS];

        void begin() {
            for (int step = 0; step < BETTER_STEPS; step++) {
                Arrays.fill(tables[step], 0);
            }
        }

        void hear(int first, int second, int third, int need) {
            int step = (need + BETTER_STEP - 1) / BETTER_STEP;
            if (step >= 0 && step < BETTER_STEPS) {
                tables[step][first]++;
                tables[step][second]++;
                tables[step][third]++;
            }
        }

        /** To be called for the steps in ascending order, once each. */
        int[] sumUpTo(int step) {
            for (int pair = 0; step > 0 && pair < MAX_PAIRS; pair++) {
                tables[step][pair] += tables[step - 1][pair];
            }
            return tables[step];
        }
    }

    /** Votes without each of the spots in turn, so that one walk does for all. */
    private static final class SpareTally extends Tally {
        private final int[][] tables = new int[MAX_SPOTS][MAX_PAIRS];
        private int tolerance;

        void begin(int newTolerance) {
            for (int spot = 0; spot < MAX_SPOTS; spot++) {
                Arrays.fill(tables[spot], 0);
            }
            tolerance = newTolerance;
        }

        void hear(int first, int second, int third, int need) {
            if (need > tolerance) {
                return;
            }
            int p = first / MAX_STARS, q = second / MAX_STARS, r = third / MAX_STARS;
            for (int spot = 0; spot < MAX_SPOTS; spot++) {
                if (spot != p && spot != q && spot != r) {
                    tables[spot][first]++;
                    tables[spot][second]++;
                    tables[spot][third]++;
                }
            }
        }
    }

    /** Walks over the triangles that are looked at. */
    private static final class Matcher {
        private final int[] starSides = new int[MAX_STARS * MAX_STARS];
        private final int[] spotSides = new int[MAX_SPOTS * MAX_SPOTS];
        /** Three stars of each triangle, and its key. */
        private final int[] starTriangles = new int[3 * MAX_STAR_TRIANGLES];
        private final int[] starKeys = new int[3 * MAX_STAR_TRIANGLES];
        private int starTriangleCount;
        private int lookedAt;

        void walk(Directions stars, Directions spots, int bucket, Tally tally) {
            lookedAt = 0;
            stars.fillSides(starSides);
            spots.fillSides(spotSides);
            listStarTriangles(stars.size(), bucket);
            for (int p = 0; p < spots.size(); p++) {
                for (int q = p + 1; q < spots.size(); q++) {
                    for (int r = q + 1; r < spots.size(); r++) {
                        lookAround(p, q, r, bucket, tally);
                    }
                }
            }
        }

        private void listStarTriangles(int starCount, int bucket) {
            starTriangleCount = 0;
            for (int i = 0; i < starCount; i++) {
                for (int j = i + 1; j < starCount; j++) {
                    for (int k = j + 1; k < starCount; k++) {
                        listStarTriangle(i, j, k, bucket);
                    }
                }
            }
        }

        private void listStarTriangle(int i, int j, int k, int bucket) {
            if (starTriangleCount >= MAX_STAR_TRIANGLES) {
                return;
            }
            int at = 3 * starTriangleCount;
            starTriangles[at] = i;
            starTriangles[at + 1] = j;
            starTriangles[at + 2] = k;
            for (int n = 0; n < 3; n++) {
                starKeys[at + n] = keyNumber(n, starSide(i, j), starSide(j, k), starSide(i, k), bucket);
            }
            starTriangleCount++;
        }

        private void lookAround(int p, int q, int r, int bucket, Tally tally) {
            int pq = spotSide(p, q), qr = spotSide(q, r), pr = spotSide(p, r);
            int low = keyNumber(0, pq, qr, pr, bucket);
            int middle = keyNumber(1, pq, qr, pr, bucket);
            int high = keyNumber(2, pq, qr, pr, bucket);
            for (int at = 0; at < 3 * starTriangleCount; at += 3) {
                if (Math.abs(starKeys[at] - low) <= 1 && Math.abs(starKeys[at + 1] - middle) <= 1
                    && Math.abs(starKeys[at + 2] - high) <= 1) {
                    lookedAt++;
                    tellOrders(p, q, r, at, tally);
                }
            }
        }

        private void tellOrders(int p, int q, int r, int at, Tally tally) {
            int pq = spotSide(p, q), qr = spotSide(q, r), pr = spotSide(p, r);
            int p0 = pairOf(p, 0), q0 = pairOf(q, 0), r0 = pairOf(r, 0);
            for (int o = 0; o + 2 < ORDERS.length; o += 3) {
                int i = starTriangles[at + ORDERS[o]];
                int j = starTriangles[at + ORDERS[o + 1]];
                int k = starTriangles[at + ORDERS[o + 2]];
                int need = Math.abs(pq - starSides[i * MAX_STARS + j]);
                need = Math.max(need, Math.abs(qr - starSides[j * MAX_STARS + k]));
                need = Math.max(need, Math.abs(pr - starSides[i * MAX_STARS + k]));
                tally.hear(p0 + i, q0 + j, r0 + k, need);
            }
        }

        private int starSide(int i, int j) {
            return starSides[i * MAX_STARS + j];
        }

        private int spotSide(int p, int q) {
            return spotSides[p * MAX_SPOTS + q];
        }
    }

    /** The three arms of two directions: a; a by b; a by (a by b). */
    private static final class Arms {
        private static final int SECOND = 3;
        /** x, y, z of each arm, and then of the second direction. */
        private final long[] parts = new long[12];

        void build(Directions row, int first, int second) {
            for (int k = 0; k < 3; k++) {
                parts[k] = row.part(first, k);
                parts[3 * SECOND + k] = row.part(second, k);
            }
            multiply(0, SECOND, 1);
            multiply(0, 1, 2);
        }

        private void multiply(int one, int other, int to) {
            for (int k = 0; k < 3; k++) {
                int next = (k + 1) % 3, last = (k + 2) % 3;
                parts[3 * to + k] = parts[3 * one + next] * parts[3 * other + last]
                    - parts[3 * one + last] * parts[3 * other + next];
            }
        }

        boolean isFlat() {
            return parts[3] == 0 && parts[4] == 0 && parts[5] == 0;
        }

        long part(int arm, int what) {
            return parts[3 * arm + what];
        }

        long square(int arm) {
            long x = parts[3 * arm], y = parts[3 * arm + 1], z = parts[3 * arm + 2];
            return x * x + y * y + z * z;
        }

        long times(int arm, int x, int y, int z) {
            return parts[3 * arm] * x + parts[3 * arm + 1] * y + parts[3 * arm + 2] * z;
        }
    }

    /** What votes lead to: the pairs that are taken, the turn, the places, the spots that are confirmed. */
    private static final class Fix {
        private final int[] takenStar = new int[MAX_SPOTS];
        private final int[] takenRank = new int[MAX_SPOTS];
        private final int[] takenSpots = new int[MAX_SPOTS];
        private final int[] confirmedStar = new int[MAX_SPOTS];
        private final int[] confirmedFar = new int[MAX_SPOTS];
        private final int[] places = new int[3 * MAX_STARS];
        private final Arms starArms = new Arms();
        private final Arms spotArms = new Arms();
        /** As bits. */
        private int usedStars;
        private int takenCount;
        private int confirmedCount;
        private boolean turned;

        /** The spot that is left out, if any, has no votes in the table. */
        void solve(Directions stars, Directions spots, int[] table, int[] settings, int leftOut) {
            takePairs(stars.size(), spots.size(), table, settings[LEAST]);
            findTurn(stars, spots);
            confirmSpots(stars.size(), spots, settings[NEAR], leftOut);
        }

        private void takePairs(int starCount, int spotCount, int[] table, int least) {
            Arrays.fill(takenStar, NONE);
            Arrays.fill(takenRank, NONE);
            usedStars = 0;
            takenCount = 0;
            for (int rank = 0; rank < spotCount; rank++) {
                int pair = surestPair(starCount, spotCount, table, least);
                if (pair == NONE) {
                    break;
                }
                int spot = pair / MAX_STARS, star = pair % MAX_STARS;
                takenStar[spot] = star;
                takenRank[spot] = rank;
                takenSpots[rank] = spot;
                usedStars |= 1 << star;
                takenCount++;
            }
        }

        private int surestPair(int starCount, int spotCount, int[] table, int least) {
            int surest = NONE, most = least - 1;
            for (int spot = 0; spot < spotCount; spot++) {
                for (int star = 0; star < starCount && takenStar[spot] == NONE; star++) {
                    int pair = pairOf(spot, star);
                    if ((usedStars >> star & 1) == 0 && table[pair] > most) {
                        surest = pair;
                        most = table[pair];
                    }
                }
            }
            return surest;
        }

        private void findTurn(Directions stars, Directions spots) {
            turned = false;
            if (takenCount < 2) {
                return;
            }
            int first = takenSpots[0], second = takenSpots[1];
            spotArms.build(spots, first, second);
            starArms.build(stars, takenStar[first], takenStar[second]);
            turned = !spotArms.isFlat() && !starArms.isFlat();
            for (int star = 0; turned && star < stars.size(); star++) {
                findPlace(star, stars.part(star, 0), stars.part(star, 1), stars.part(star, 2));
            }
        }

        /**
         * Arm 1 stands square on arm 0, so the square of arm 2 is that of arm 0 times that of arm 1, and divides all.
         * The sum stays below 2 to the power of 54, a place below 2 to the power of 30.
         */
        private void findPlace(int star, int x, int y, int z) {
            long square0 = starArms.square(0), square1 = starArms.square(1), all = square0 * square1;
            long along0 = starArms.times(0, x, y, z) * square1;
            long along1 = starArms.times(1, x, y, z) * square0;
            long along2 = starArms.times(2, x, y, z);
            for (int what = 0; what < 3; what++) {
                long sum = along0 * spotArms.part(0, what) + along1 * spotArms.part(1, what)
                    + along2 * spotArms.part(2, what);
                places[3 * star + what] = all < 1 ? 0 : (int) Math.floorDiv(2 * sum + all, 2 * all);
            }
        }

        private void confirmSpots(int starCount, Directions spots, int near, int leftOut) {
            Arrays.fill(confirmedStar, NONE);
            Arrays.fill(confirmedFar, NONE);
            usedStars = 0;
            confirmedCount = 0;
            for (int spot = 0; turned && spot < spots.size(); spot++) {
                int x = spots.part(spot, 0), y = spots.part(spot, 1), z = spots.part(spot, 2);
                int star = spot == leftOut ? NONE : nearestStar(starCount, near, x, y, z);
                if (star != NONE) {
                    usedStars |= 1 << star;
                    confirmedStar[spot] = star;
                    confirmedFar[spot] = (int) farOf(star, x, y, z);
                    confirmedCount++;
                }
            }
        }

        private int nearestStar(int starCount, int near, int x, int y, int z) {
            int nearest = NONE;
            long least = near + 1L;
            for (int star = 0; star < starCount; star++) {
                long far = farOf(star, x, y, z);
                if ((usedStars >> star & 1) == 0 && far < least) {
                    nearest = star;
                    least = far;
                }
            }
            return nearest;
        }

        private long farOf(int star, int x, int y, int z) {
            return Math.abs((long) places[3 * star] - x) + Math.abs((long) places[3 * star + 1] - y)
                + Math.abs((long) places[3 * star + 2] - z);
        }

        int wrongBits() {
            int bits = 0;
            for (int spot = 0; spot < MAX_SPOTS; spot++) {
                if (takenStar[spot] != NONE && takenStar[spot] != confirmedStar[spot]) {
                    bits |= 1 << spot;
                }
            }
            return bits;
        }
    }

    /** Stars, spots and settings, and what follows from them, kept until one of them changes. */
    private static final class Sight {
        private final Directions stars = new Directions(MAX_STARS);
        private final Directions spots = new Directions(MAX_SPOTS);
        private final int[] settings = FIRST_SETTINGS.clone();
        private final Matcher matcher = new Matcher();
        private final PlainTally plain = new PlainTally();
        private final StepTally steps = new StepTally();
        private final SpareTally spares = new SpareTally();
        private final Fix fix = new Fix();
        private final Fix trial = new Fix();
        private int lookedAt;
        private int matched;
        private int betterTolerance;
        private int betterConfirmed;
        private int spareSpot;
        private int spareConfirmed;
        private boolean fixKnown;
        private boolean betterKnown;
        private boolean spareKnown;

        Directions rowOf(int kind) {
            return kind == STAR ? stars : spots;
        }

        void forget() {
            fixKnown = false;
            betterKnown = false;
            spareKnown = false;
        }

        Sight known() {
            if (!fixKnown) {
                plain.begin(settings[TOLERANCE]);
                matcher.walk(stars, spots, settings[BUCKET], plain);
                lookedAt = matcher.lookedAt;
                matched = plain.matched;
                fix.solve(stars, spots, plain.table, settings, NONE);
                fixKnown = true;
            }
            return this;
        }

        void findBetter() {
            if (betterKnown) {
                return;
            }
            steps.begin();
            matcher.walk(stars, spots, settings[BUCKET], steps);
            betterConfirmed = NONE;
            for (int step = 0; step < BETTER_STEPS; step++) {
                trial.solve(stars, spots, steps.sumUpTo(step), settings, NONE);
                if (trial.confirmedCount > betterConfirmed) {
                    betterConfirmed = trial.confirmedCount;
                    betterTolerance = step * BETTER_STEP;
                }
            }
            betterKnown = true;
        }

        void findSpare() {
            if (spareKnown) {
                return;
            }
            spares.begin(settings[TOLERANCE]);
            matcher.walk(stars, spots, settings[BUCKET], spares);
            spareSpot = NONE;
            spareConfirmed = NONE;
            for (int spot = 0; spot < spots.size(); spot++) {
                trial.solve(stars, spots, spares.tables[spot], settings, spot);
                if (trial.confirmedCount > spareConfirmed) {
                    spareConfirmed = trial.confirmedCount;
                    spareSpot = spot;
                }
            }
            spareKnown = true;
        }
    }

    /** Things: whether it is a spot, x, y, z of each, as they were when they were put. */
    private static final class Tray {
        private final int[] things = new int[4 * TRAY_ROOM];
        private boolean holdsStars;
        private boolean holdsSpots;
        private int size;

        Tray(boolean holdsStars, boolean holdsSpots) {
            this.holdsStars = holdsStars;
            this.holdsSpots = holdsSpots;
        }

        boolean holds(int kind) {
            return kind == STAR ? holdsStars : holdsSpots;
        }

        boolean has(int i) {
            return i >= 0 && i < size;
        }

        void append(int kind, int x, int y, int z) {
            if (size >= TRAY_ROOM) {
                return;
            }
            things[4 * size] = kind;
            things[4 * size + 1] = x;
            things[4 * size + 2] = y;
            things[4 * size + 3] = z;
            size++;
        }

        void become(Tray other) {
            System.arraycopy(other.things, 0, things, 0, things.length);
            holdsStars = other.holdsStars;
            holdsSpots = other.holdsSpots;
            size = other.size;
        }

        int column(int i, int what) {
            return has(i) && isWithin(what, 0, 3) ? things[4 * i + what] : 0;
        }

        int product(int i, int j) {
            return column(i, 1) * column(j, 1) + column(i, 2) * column(j, 2) + column(i, 3) * column(j, 3);
        }
    }

    /** A row of a form; the items behind its length are not its own. */
    private static final class Sheet {
        private final int[] items = new int[SHEET_ROOM];
        private int form = LOST;
        private int length;

        boolean isLost() {
            return form == LOST;
        }

        int length() {
            return length;
        }

        void renew(int newForm, int newLength) {
            Arrays.fill(items, 0);
            form = newForm;
            length = Math.max(0, Math.min(SHEET_ROOM, newLength));
        }

        int faultOf(int asForm, int i) {
            if (isLost()) {
                return NULL;
            }
            if (form != asForm) {
                return CAST;
            }
            return i < 0 || i >= length ? INDEX : 0;
        }

        int item(int i) {
            return i >= 0 && i < length ? items[i] : 0;
        }

        void store(int i, int v) {
            if (i >= 0 && i < length) {
                items[i] = form == BYTES ? (byte) v : form == SHORTS ? (short) v : v;
            }
        }

        boolean hasRun(int i, int n) {
            return i >= 0 && n >= 0 && i <= length && n <= length - i;
        }

        void takeRun(Sheet from, int i, int j, int n) {
            if (from.hasRun(i, n) && hasRun(j, n)) {
                System.arraycopy(from.items, i, items, j, n);
            }
        }
    }
}
