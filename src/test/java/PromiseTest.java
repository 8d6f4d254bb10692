import java.util.Random;

/** One method for each promise: ordinary inputs, the edges that the document names, wrong inputs. */
public final class PromiseTest {
    private static final int LEAST = Integer.MIN_VALUE;
    private static final int[] FAR_OFF = {LEAST, Integer.MAX_VALUE, -1};
    private static int wrong = 0;

    private static void due(String what, long got, long want) {
        if (got == want) return;
        wrong++;
        System.out.println(what + " answered " + got + ", due is " + want);
    }

    public static void main(String[] args) {
        p1New(); p2Add(); p3Back(); p4At(); p5Read(); p6See(); p7Set(); p8Side(); p9Key(); p10Looks();
        p11Votes(); p12Taken(); p13Turn(); p14Place(); p15Confirmed(); p16Wrong(); p17Better(); p18Spare();
        p19Put(); p20Fork(); p21Take(); p22Thing(); p23Share();
        p24Sheet(); p25Lose(); p26Lay(); p27Get(); p28Copy(); p29Write(); p30Count(); p31Digest();
        refusalsChangeNothing();
        asMuchAsCanBe();
        System.out.println(wrong == 0 ? "all promises hold" : wrong + " answers are not as due");
        if (wrong != 0) System.exit(1);
    }

    /** kind, x, y, z of each. */
    private static StarTracker with(int[]... all) {
        StarTracker x = new StarTracker();
        for (int[] d : all) x.add(d[0], d[1], d[2], d[3]);
        return x;
    }
    private static int[] star(int x, int y, int z) { return new int[] {0, x, y, z}; }
    private static int[] spot(int x, int y, int z) { return new int[] {1, x, y, z}; }
    private static void where(String what, StarTracker x, int kind, int i, int a, int b, int c) {
        due(what + ": x", x.at(kind, i, 0), a);
        due(what + ": y", x.at(kind, i, 1), b);
        due(what + ": z", x.at(kind, i, 2), c);
    }
    private static void place(StarTracker x, int star, int a, int b, int c) {
        due("place(" + star + ", 0)", x.place(star, 0), a);
        due("place(" + star + ", 1)", x.place(star, 1), b);
        due("place(" + star + ", 2)", x.place(star, 2), c);
    }
    /** Stars whose triangles are all unlike. */
    private static StarTracker sky() {
        return with(star(100, 0, 0), star(0, 90, 10), star(10, 20, 95), star(-60, 60, 30), star(40, -80, 20), star(5, 70, -70));
    }

    private static void p1New() {
        StarTracker x = new StarTracker();
        int[] counts = {0, 0, 0, 0, 0, 200, 0, 0, 0};
        for (int w = 0; w < 9; w++) due("1: count(" + w + ")", x.count(w), counts[w]);
        for (int t = 0; t < 4; t++) due("1: take", x.take(t), -3);
        for (int s = 0; s < 4; s++) due("1: lose", x.lose(s), -11);
        int[] first = {400, 200, 1, 20};
        for (int w = 0; w < 4; w++) due("1: set(" + w + ")", x.set(w, first[w]), first[w]);
        long h = 17;
        for (int v : new int[] {0, 0, 0, 0, 0, 200, 0, 0, 0, 0, 0, 0, 0, 0, 0, 0, -1, -1}) h = 31 * h + v;
        for (int n = 0; n < 4 * 4 * 5; n++) h = 31 * h + LEAST;
        due("1: digest", x.digest(), h);
        StarTracker y = new StarTracker();
        x.add(0, 1, 1, 1);
        due("1: another object", y.count(0), 0);
    }

    private static void p2Add() {
        StarTracker x = new StarTracker();
        due("2: kind", x.add(2, 1, 1, 1), -2);
        due("2: kind", x.add(-1, 1, 1, 1), -2);
        due("2: all 0", x.add(0, 0, 0, 0), -2);
        due("2: all 0", x.add(1, 0, 0, 0), -2);
        for (int v : new int[] {101, -101, LEAST, Integer.MAX_VALUE}) {
            due("2: x", x.add(0, v, 1, 1), -2);
            due("2: y", x.add(1, 1, v, 1), -2);
            due("2: z", x.add(0, 1, 1, v), -2);
        }
        due("2: nothing came", x.count(0) + x.count(1), 0);
        for (int i = 1; i <= 12; i++) due("2: star", x.add(0, 100, -100, i), i);
        due("2: star 13", x.add(0, 1, 1, 1), -4);
        due("2: BAD ahead of FULL", x.add(0, 0, 0, 0), -2);
        for (int i = 1; i <= 8; i++) due("2: spot", x.add(1, -100, 100, -i), i);
        due("2: spot 9", x.add(1, 1, 1, 1), -4);
        due("2: stars", x.count(0), 12);
        due("2: spots", x.count(1), 8);
        where("2: star 11", x, 0, 11, 100, -100, 12);
        where("2: spot 7", x, 1, 7, -100, 100, -8);
    }

    private static void p3Back() {
        StarTracker x = with(star(1, 2, 3), star(4, 5, 6), spot(7, 8, 9));
        due("3: kind", x.back(2), -2);
        due("3: kind", x.back(-1), -2);
        due("3: spot", x.back(1), 0);
        due("3: no spot", x.back(1), -3);
        due("3: star", x.back(0), 1);
        where("3: left", x, 0, 0, 1, 2, 3);
        due("3: gone", x.at(0, 1, 0), LEAST);
        due("3: star", x.back(0), 0);
        due("3: no star", x.back(0), -3);
        due("3: again", x.add(0, 9, 9, 9), 1);
        where("3: anew", x, 0, 0, 9, 9, 9);
        StarTracker y = sky();
        y.see(6, 0, 0, 0, 0, 0);
        due("3: before", y.looks(3), 20);
        y.back(1);
        due("3: votes follow", y.looks(3), 10);
        y.back(0);
        y.back(0);
        due("3: votes follow", y.looks(3), 4);
    }

    private static void p4At() {
        StarTracker x = with(star(1, -2, 3), star(4, 5, -6), spot(-7, 8, 9));
        where("4: star 0", x, 0, 0, 1, -2, 3);
        where("4: star 1", x, 0, 1, 4, 5, -6);
        where("4: spot 0", x, 1, 0, -7, 8, 9);
        for (int v : new int[] {2, -1, LEAST, Integer.MAX_VALUE}) due("4: kind", x.at(v, 0, 0), LEAST);
        for (int v : new int[] {2, -1, 12, LEAST, Integer.MAX_VALUE}) due("4: star", x.at(0, v, 0), LEAST);
        due("4: spot", x.at(1, 1, 0), LEAST);
        for (int v : new int[] {3, -1, LEAST, Integer.MAX_VALUE}) due("4: what", x.at(0, 0, v), LEAST);
        due("4: no finding", x.count(8), 0);
    }

    private static void p5Read() {
        StarTracker x = new StarTracker();
        due("5: kind", x.read(2, 0), -2);
        due("5: sheet", x.read(0, 4), -2);
        due("5: sheet", x.read(1, -1), -2);
        due("5: BAD ahead of NULL", x.read(-1, 0), -2);
        due("5: no finding", x.count(8), 0);
        due("5: NULL", x.read(0, 3), -11);
        due("5: finding", x.count(8), 1);
        for (int form = 0; form < 3; form++) {
            x = with(star(1, 1, 1));
            x.sheet(2, form, 8);
            for (int i = 0; i < 8; i++) x.lay(2, form, i, 10 * i - 100);
            due("5: whole ones", x.read(0, 2), 2);
            due("5: more", x.count(0), 3);
            where("5: first stays", x, 0, 0, 1, 1, 1);
            where("5: star 1", x, 0, 1, -100, -90, -80);
            where("5: star 2", x, 0, 2, -70, -60, -50);
            due("5: sheet stays", x.get(2, form, 7), -30);
            x.lay(2, form, 4, 101);
            due("5: up to one that may not be", x.read(1, 2), 1);
            due("5: spots", x.count(1), 1);
            for (int i = 0; i < 3; i++) x.lay(2, form, i, 0);
            due("5: all 0", x.read(1, 2), 0);
            due("5: none came, none went", x.count(1), 1);
        }
        x = new StarTracker();
        x.sheet(0, 2, 60);
        for (int i = 0; i < 60; i++) x.lay(0, 2, i, 5 + i / 3);
        x.add(0, 1, 1, 1);
        due("5: stars up to 12", x.read(0, 0), 11);
        due("5: stars", x.count(0), 12);
        where("5: last star", x, 0, 11, 15, 15, 15);
        due("5: spots up to 8", x.read(1, 0), 8);
        due("5: full", x.read(1, 0), 0);
        due("5: spots", x.count(1), 8);
        x.sheet(1, 0, 2);
        x.back(0);
        due("5: none whole", x.read(0, 1), 0);
        x.sheet(1, 0, 0);
        due("5: empty sheet", x.read(0, 1), 0);
        StarTracker y = sky();
        y.see(5, 0, 0, 0, 0, 0);
        due("5: before", y.looks(3), 10);
        y.sheet(0, 0, 3);
        y.lay(0, 0, 0, 5);
        y.lay(0, 0, 1, 70);
        y.lay(0, 0, 2, -70);
        due("5: a spot", y.read(1, 0), 1);
        due("5: votes follow", y.looks(3), 20);
    }

    private static void p6See() {
        StarTracker x = with(star(1, 2, 3), star(-10, 20, 30));
        due("6", x.see(2, 1, 0, 0, 0, 0), 2);
        where("6: around x", x, 1, 0, 1, -3, 2);
        where("6: around x", x, 1, 1, -10, -30, 20);
        due("6", x.see(1, 0, 1, 0, 0, 0), 1);
        due("6: spots", x.count(1), 1);
        where("6: around y", x, 1, 0, 3, 2, -1);
        x.see(1, 0, 0, 1, 0, 0);
        where("6: around z", x, 1, 0, -2, 1, 3);
        x.see(1, 2, 0, 0, 0, 0);
        where("6: twice around x", x, 1, 0, 1, -2, -3);
        x.see(1, 0, 3, 0, 0, 0);
        where("6: three times around y", x, 1, 0, -3, 2, 1);
        x.see(1, 1, 1, 1, 0, 0);
        // (1, 2, 3), (1, -3, 2), (2, -3, -1), (3, 2, -1)
        where("6: x, then y, then z", x, 1, 0, 3, 2, -1);
        due("6: none", x.see(0, 3, 3, 3, 9, 3), 0);
        due("6: none", x.count(1), 0);
        x.add(1, 7, 7, 7);
        for (int v : new int[] {-1, 3, 9, LEAST, Integer.MAX_VALUE}) due("6: n", x.see(v, 0, 0, 0, 0, 0), -2);
        for (int v : new int[] {-1, 4, LEAST, Integer.MAX_VALUE}) {
            due("6: a", x.see(1, v, 0, 0, 0, 0), -2);
            due("6: b", x.see(1, 0, v, 0, 0, 0), -2);
            due("6: c", x.see(1, 0, 0, v, 0, 0), -2);
            due("6: m", x.see(1, 0, 0, 0, 0, v), -2);
        }
        where("6: BAD changes nothing", x, 1, 0, 7, 7, 7);
        StarTracker full = new StarTracker();
        for (int i = 1; i <= 12; i++) full.add(0, i, 0, 0);
        due("6: 9", full.see(9, 0, 0, 0, 0, 0), -2);
        due("6: 8", full.see(8, 0, 0, 0, 0, 0), 8);
        p6Noise();
    }

    private static void p6Noise() {
        boolean clipped = false, lifted = false;
        for (int seed = -300; seed < 300; seed++) {
            StarTracker x = with(star(100, -100, 0), star(1, 0, 0));
            for (int m = 1; m <= 3; m++) {
                x.see(2, 0, 0, 0, seed, m);
                int lots = seed;
                int[][] d = {{100, -100, 0}, {1, 0, 0}};
                for (int i = 0; i < 2; i++) {
                    for (int w = 0; w < 3; w++) {
                        lots = 1103515245 * lots + 12345;
                        long upper = (lots & 0xFFFFFFFFL) / 65536;
                        d[i][w] += (int) (upper % (2 * m + 1)) - m;
                        clipped |= Math.abs(d[i][w]) > 100;
                        d[i][w] = Math.max(-100, Math.min(100, d[i][w]));
                    }
                    if (d[i][0] == 0 && d[i][1] == 0 && d[i][2] == 0) {
                        lifted = true;
                        d[i][2] = 1;
                    }
                    where("6: noise " + m + " of seed " + seed, x, 1, i, d[i][0], d[i][1], d[i][2]);
                }
            }
        }
        due("6: the edges came up", clipped && lifted ? 1 : 0, 1);
    }

    private static void p7Set() {
        StarTracker x = new StarTracker();
        int[] first = {400, 200, 1, 20}, low = {1, 0, 1, 0}, high = {9999, 9999, 99, 300};
        for (int w = 0; w < 4; w++) {
            due("7: too low", x.set(w, low[w] - 1), -2);
            due("7: too high", x.set(w, high[w] + 1), -2);
            due("7: least int", x.set(w, LEAST), -2);
            due("7: greatest int", x.set(w, Integer.MAX_VALUE), -2);
            due("7: was", x.set(w, low[w]), first[w]);
            due("7: was", x.set(w, high[w]), low[w]);
            due("7: was", x.set(w, high[w]), high[w]);
        }
        for (int v : new int[] {-1, 4, LEAST, Integer.MAX_VALUE}) due("7: what", x.set(v, 1), -2);
        StarTracker y = sky();
        y.see(6, 0, 0, 0, 0, 0);
        due("7: confirmed", y.count(3), 6);
        y.set(2, 99);
        due("7: LEAST counts at once", y.count(3), 0);
    }

    private static void p8Side() {
        StarTracker x = with(star(100, 100, 100), star(-100, -100, -100), star(97, 104 - 8, 100), spot(1, 2, 3), spot(2, 4, 6));
        due("8", x.side(0, 0, 1), 120000);
        due("8", x.side(0, 1, 0), 120000);
        due("8", x.side(0, 0, 2), 9 + 16);
        due("8: itself", x.side(0, 2, 2), 0);
        due("8: spots", x.side(1, 0, 1), 14);
        for (int v : new int[] {-1, 3, LEAST, Integer.MAX_VALUE}) {
            due("8: i", x.side(0, v, 0), -2);
            due("8: j", x.side(0, 0, v), -2);
            due("8: itself, but none", x.side(0, v, v), -2);
        }
        due("8: spot 2", x.side(1, 2, 0), -2);
        due("8: kind", x.side(2, 0, 0), -2);
        due("8: kind", x.side(-1, 0, 0), -2);
    }

    private static void p9Key() {
        // Sides 100 and 400 from star 0, 500 between; spots: 4, 9, 13.
        StarTracker x = with(star(1, 1, 1), star(11, 1, 1), star(1, 21, 1), spot(1, 1, 1), spot(3, 1, 1), spot(1, 4, 1));
        int[][] orders = {{0, 1, 2}, {0, 2, 1}, {1, 0, 2}, {1, 2, 0}, {2, 0, 1}, {2, 1, 0}};
        for (int[] o : orders) {
            x.set(0, 1);
            due("9: least", x.key(0, o[0], o[1], o[2], 0), 100);
            due("9: middle", x.key(0, o[0], o[1], o[2], 1), 400);
            due("9: greatest", x.key(0, o[0], o[1], o[2], 2), 500);
            due("9: spots", x.key(1, o[0], o[1], o[2], 1), 9);
            x.set(0, 101);
            due("9: cut", x.key(0, o[0], o[1], o[2], 0), 0);
            due("9: cut", x.key(0, o[0], o[1], o[2], 1), 3);
            due("9: cut", x.key(0, o[0], o[1], o[2], 2), 4);
        }
        due("9: alike", x.key(0, 0, 0, 1, 0), -2);
        due("9: alike", x.key(0, 0, 1, 0, 0), -2);
        due("9: alike", x.key(0, 1, 0, 0, 0), -2);
        for (int v : new int[] {-1, 3, LEAST, Integer.MAX_VALUE}) {
            due("9: a", x.key(0, v, 1, 2, 0), -2);
            due("9: b", x.key(0, 0, v, 2, 0), -2);
            due("9: c", x.key(0, 0, 1, v, 0), -2);
            due("9: k", x.key(0, 0, 1, 2, v), -2);
        }
        due("9: kind", x.key(2, 0, 1, 2, 0), -2);
        due("9: kind", x.key(-1, 0, 1, 2, 0), -2);
        x.back(1);
        due("9: spot gone", x.key(1, 0, 1, 2, 0), -2);
    }

    private static void p10Looks() {
        StarTracker x = new StarTracker();
        int[] triangles = {0, 0, 0, 1, 4, 10, 20, 35, 56, 84, 120, 165, 220};
        for (int n = 0; n <= 12; n++) {
            due("10: stars " + n, x.looks(0), triangles[n]);
            if (n <= 8) due("10: spots " + n, x.looks(1), triangles[n]);
            x.add(0, 1, 1, n);
            x.add(1, 1, 1, n);
        }
        for (int v : new int[] {-1, 4, LEAST, Integer.MAX_VALUE}) due("10: what", x.looks(v), -2);
        // Keys by 1: stars 100, 400, 500; spots 100, 400, 500 moved by what the last spot moves.
        StarTracker y = with(star(1, 1, 1), star(11, 1, 1), star(1, 21, 1), spot(1, 1, 1), spot(11, 1, 1), spot(1, 21, 2));
        y.set(0, 1);
        due("10: 400 and 401, 500 and 501 are neighbours", y.looks(2), 1);
        due("10: by 200 also with 400 for 501, 500 for 401", y.looks(3), 2);
        y.set(1, 100);
        due("10: by 100 not: 101 is more", y.looks(3), 1);
        y.set(1, 101);
        due("10: by 101", y.looks(3), 2);
        y.set(1, 1);
        due("10: by 1", y.looks(3), 1);
        y.set(1, 0);
        due("10: not by 0", y.looks(3), 0);
        due("10: looked at all the same", y.looks(2), 1);
        y.back(1);
        y.add(1, 1, 21, 3);
        y.set(1, 200);
        due("10: 400 and 404 are none", y.looks(2), 0);
        due("10: nor match", y.looks(3), 0);
        y.set(0, 2);
        due("10: 200 and 202", y.looks(2), 0);
        y.set(0, 4);
        due("10: 100 and 101", y.looks(2), 1);
        y.set(1, 9999);
        due("10: all orders", y.looks(3), 6);
        p10Neighbours();
    }

    /** Spots are bent one side at a time; KEYS by 100 of the stars are 1, 4, 5. */
    private static void p10Neighbours() {
        // How far spot 1 is from spot 0 by x, and spot 2 by x, y; behind it the sides and the key.
        int[][] spots = {
            {10, 0, 20}, // 100, 400, 500: 1, 4, 5
            {15, 0, 20}, // 225, 400, 625: 2, 4, 6
            {5, 0, 20}, // 25, 400, 425: 0, 4, 4
            {18, 0, 20}, // 324, 400, 724: 3, 4, 7
            {10, 0, 17}, // 100, 289, 389: 1, 2, 3
            {10, 4, 18}, // 100, 340, 360: 1, 3, 3
            {10, 0, 24}, // 100, 576, 676: 1, 5, 6
            {10, 2, 23}, // 100, 533, 593: 1, 5, 5
            {10, -6, 20}, // 100, 436, 656: 1, 4, 6
            {10, -9, 20}, // 100, 481, 761: 1, 4, 7
            {17, 5, 19}, // 289, 386, 505: 2, 3, 5
            {18, 7, 20}, // 324, 449, 521: 3, 4, 5
            {10, 6, 16}, // 100, 292, 272: 1, 2, 2
            {10, 8, 22}, // 100, 548, 488: 1, 4, 5
            {14, 10, 23}, // 196, 545, 629: 1, 5, 6
            {17, 14, 22}}; // 289, 493, 680: 2, 4, 6
        StarTracker x = with(star(1, 1, 1), star(11, 1, 1), star(1, 21, 1));
        x.set(0, 100);
        int near = 0, off = 0;
        for (int[] d : spots) {
            x.see(0, 0, 0, 0, 0, 0);
            x.add(1, 1, 1, 1);
            x.add(1, 1 + d[0], 1, 1);
            x.add(1, 1 + d[1], 1 + d[2], 1);
            boolean all = true;
            int[] key = {1, 4, 5};
            for (int k = 0; k < 3; k++) all &= Math.abs(x.key(1, 0, 1, 2, k) - key[k]) <= 1;
            if (all) near++;
            else off++;
            due("10: key " + x.key(1, 0, 1, 2, 0) + ", " + x.key(1, 0, 1, 2, 1) + ", " + x.key(1, 0, 1, 2, 2),
                x.looks(2), all ? 1 : 0);
        }
        due("10: neighbours and others", near > 5 && off > 3 ? 1 : 0, 1);
        // One number alone differs, by 1 and by 2.
        due("10: high 6", lookedAt(10, -6, 20), 1);
        due("10: high 7", lookedAt(10, -9, 20), 0);
        due("10: low 2", lookedAt(17, 8, 20), 1);
        due("10: low 3", lookedAt(18, 8, 20), 0);
        due("10: middle 3", lookedAt(10, -5, 18), 1);
        due("10: middle 2", lookedAt(10, -7, 15), 0);
    }
    private static int lookedAt(int x1, int x2, int y2) {
        StarTracker x = with(star(1, 1, 1), star(11, 1, 1), star(1, 21, 1), spot(1, 1, 1), spot(1 + x1, 1, 1), spot(1 + x2, 1 + y2, 1));
        x.set(0, 100);
        return x.looks(2);
    }

    private static void p11Votes() {
        StarTracker x = sky();
        x.see(6, 2, 1, 3, 0, 0);
        x.set(1, 0);
        for (int p = 0; p < 6; p++)
            for (int i = 0; i < 6; i++) due("11: votes(" + p + ", " + i + ")", x.votes(p, i), p == i ? 10 : 0);
        for (int v : new int[] {-1, 6, LEAST, Integer.MAX_VALUE}) {
            due("11: spot", x.votes(v, 0), -2);
            due("11: star", x.votes(0, v), -2);
        }
        // Sides 200 all: each of six orders votes, each pair in two of them.
        StarTracker y = with(star(10, 0, 0), star(0, 10, 0), star(0, 0, 10));
        y.see(3, 0, 0, 0, 0, 0);
        for (int p = 0; p < 3; p++) for (int i = 0; i < 3; i++) due("11: orders", y.votes(p, i), 2);
        // Sides 100, 400, 500, and the spots mirrored: p with i, q with k, r with j.
        StarTracker z = with(star(1, 1, 1), star(11, 1, 1), star(1, 21, 1), spot(1, 1, 1), spot(1, 21, 1), spot(11, 1, 1));
        z.set(1, 99);
        int[][] want = {{1, 0, 0}, {0, 0, 1}, {0, 1, 0}};
        for (int p = 0; p < 3; p++) for (int i = 0; i < 3; i++) due("11: by 99", z.votes(p, i), want[p][i]);
        z.set(1, 100);
        // By 100 also the order that takes 400 for 500 and 500 for 400, as 100 stays 100.
        int[][] more = {{1, 1, 0}, {0, 0, 2}, {1, 1, 0}};
        for (int p = 0; p < 3; p++) for (int i = 0; i < 3; i++) due("11: by 100", z.votes(p, i), more[p][i]);
    }

    private static void p12Taken() {
        StarTracker x = with(star(10, 0, 0), star(0, 10, 0), star(0, 0, 10));
        x.see(3, 0, 0, 0, 0, 0);
        for (int p = 0; p < 3; p++) {
            due("12: of like ones the least spot, the least star", x.taken(p, 0), p);
            due("12: as which", x.taken(p, 1), p);
        }
        x.set(2, 2);
        due("12: LEAST reached", x.count(2), 3);
        x.set(2, 3);
        due("12: LEAST not reached", x.taken(0, 0), -1);
        due("12: LEAST not reached", x.taken(0, 1), -1);
        due("12: LEAST not reached", x.count(2), 0);
        // Most votes first: by 100 spot 1 has star 2 twice, then spot 0 the least of its like ones.
        StarTracker z = with(star(1, 1, 1), star(11, 1, 1), star(1, 21, 1), spot(1, 1, 1), spot(1, 21, 1), spot(11, 1, 1));
        z.set(1, 100);
        due("12: surest", z.taken(1, 0), 2);
        due("12: surest is the first", z.taken(1, 1), 0);
        due("12: then", z.taken(0, 0), 0);
        due("12: then", z.taken(0, 1), 1);
        due("12: last", z.taken(2, 0), 1);
        due("12: last", z.taken(2, 1), 2);
        z.set(2, 2);
        due("12: one alone", z.count(2), 1);
        due("12: one alone", z.taken(0, 0), -1);
        // Two like stars: one spot has only one of them.
        StarTracker y = with(star(1, 1, 1), star(11, 1, 1), star(1, 21, 1), star(11, 1, 1));
        y.see(3, 0, 0, 0, 0, 0);
        y.set(1, 0);
        due("12: a clash", y.votes(1, 1), 1);
        due("12: a clash", y.votes(1, 3), 1);
        due("12: most votes", y.votes(0, 0), 2);
        due("12: the least star", y.taken(1, 0), 1);
        due("12: behind those with more", y.taken(1, 1), 2);
        for (int v : new int[] {-1, 3, LEAST, Integer.MAX_VALUE}) due("12: spot", y.taken(v, 0), -2);
        for (int v : new int[] {-1, 2, LEAST, Integer.MAX_VALUE}) due("12: what", y.taken(0, v), -2);
    }

    /** Spots 0 and 1, and stars 0 and 1, lie on one line from the middle. */
    private static StarTracker inLine() {
        StarTracker x = with(star(10, 0, 0), star(20, 0, 0), star(0, 50, 0));
        x.see(3, 0, 0, 1, 0, 0);
        x.set(1, 0);
        return x;
    }

    private static void p13Turn() {
        StarTracker x = sky();
        due("13: no spots", x.turn(), 0);
        x.see(2, 0, 0, 0, 0, 0);
        due("13: no triangle", x.turn(), 0);
        x.see(3, 0, 0, 0, 0, 0);
        due("13", x.turn(), 1);
        x.set(2, 2);
        due("13: no pairs", x.turn(), 0);
        StarTracker y = inLine();
        due("13: three pairs", y.count(2), 3);
        due("13: but in line", y.turn(), 0);
        // Only the spots in line: sides 100, 2600, 2900 by spots (0, 10, 0), (0, 20, 0), (-50, 0, 0).
        StarTracker z = with(star(10, 0, 1), star(20, 0, 0), star(0, 50, 0), spot(0, 10, 0), spot(0, 20, 0), spot(-50, 0, 0));
        z.set(1, 1);
        due("13: pairs", z.count(2), 3);
        due("13: spots in line", z.turn(), 0);
        StarTracker w = with(star(10, 0, 0), star(20, 0, 0), star(0, 50, 0), spot(0, 10, 1), spot(0, 20, 0), spot(-50, 0, 0));
        w.set(1, 1);
        due("13: pairs", w.count(2), 3);
        due("13: stars in line", w.turn(), 0);
        StarTracker two = with(star(1, 1, 1), star(11, 1, 1), star(1, 21, 1), spot(1, 1, 1), spot(1, 21, 1), spot(11, 1, 1));
        two.set(1, 100);
        two.set(2, 2);
        due("13: one pair", two.count(2), 1);
        due("13: one pair is too few", two.turn(), 0);
        StarTracker like = with(star(1, 1, 1), star(11, 1, 1), star(1, 21, 1), star(1, 21, 1));
        like.see(3, 0, 0, 0, 0, 0);
        like.set(1, 0);
        like.set(2, 2);
        due("13: two pairs", like.count(2), 2);
        due("13: two pairs do", like.turn(), 1);
        int[][] flats = {{0, 10, 0, 0, 0, 20}, {0, 0, 10, 20, 0, 0}, {10, 0, 0, 0, 20, 0}};
        for (int[] f : flats) {
            StarTracker p = with(star(f[0], f[1], f[2]), star(f[3], f[4], f[5]), star(40, 41, 42));
            p.see(3, 0, 0, 0, 0, 0);
            p.set(1, 0);
            due("13: a by b along one of x, y, z", p.turn(), 1);
        }
    }

    /** The turn by stars twice as long as the spots: places are x by 2, y by 8, z by 4. */
    private static StarTracker shrunk() {
        StarTracker x = with(star(2, 0, 0), star(0, 2, 0), star(0, 0, 2), spot(1, 0, 0), spot(0, 1, 0), spot(0, 0, 1));
        x.set(1, 6);
        return x;
    }

    private static void p14Place() {
        StarTracker x = sky();
        due("14: NOT", x.place(0, 0), LEAST);
        x.see(3, 0, 0, 1, 0, 0);
        place(x, 0, 0, 100, 0);
        place(x, 1, -90, 0, 10);
        place(x, 2, -20, 10, 95);
        place(x, 5, -70, 5, -70);
        for (int v : new int[] {-1, 6, LEAST, Integer.MAX_VALUE}) due("14: star", x.place(v, 0), LEAST);
        for (int v : new int[] {-1, 3, LEAST, Integer.MAX_VALUE}) due("14: what", x.place(0, v), LEAST);
        StarTracker y = shrunk();
        int[][] more = {{1, 4, 2}, {-1, -4, -2}, {-3, -12, -6}, {100, 100, 100}, {-100, -99, -99}, {3, 5, 5}};
        for (int[] d : more) y.add(0, d[0], d[1], d[2]);
        due("14: only the first three vote", y.count(4), 18);
        place(y, 3, 1, 1, 1);
        place(y, 4, 0, 0, 0);
        place(y, 5, -1, -1, -1);
        place(y, 6, 50, 13, 25);
        place(y, 7, -50, -12, -25);
        place(y, 8, 2, 1, 1);
        // Arms of spots far greater than those of stars: a by b is (6000, -8400, 6000), its x by a again 936000.
        StarTracker z = with(star(1, 0, 0), star(0, 1, 0), star(0, 0, 1), spot(100, 100, 40), spot(40, 100, 100), spot(100, 40, 100));
        z.set(0, 9999);
        z.set(1, 9999);
        z.add(0, 100, -100, 100);
        due("14: great", z.turn(), 1);
        due("14: great", z.place(3, 0), 100 * 100 + 100 * 6000 + 100 * 936000);
    }

    private static void p15Confirmed() {
        StarTracker x = sky();
        x.see(3, 0, 0, 0, 0, 0);
        x.set(1, 0);
        x.add(1, 7, 70, -65);
        due("15: another spot by the turn", x.confirmed(3, 0), 5);
        due("15: how far", x.confirmed(3, 1), 7);
        x.set(3, 7);
        due("15: no farther than NEAR", x.confirmed(3, 0), 5);
        x.set(3, 6);
        due("15: farther than NEAR", x.confirmed(3, 0), -1);
        due("15: farther than NEAR", x.confirmed(3, 1), -1);
        x.set(3, 20);
        x.add(1, 5, 70, -70);
        due("15: in the order of spots", x.confirmed(3, 0), 5);
        due("15: its star is gone", x.confirmed(4, 0), -1);
        for (int v : new int[] {-1, 5, LEAST, Integer.MAX_VALUE}) due("15: spot", x.confirmed(v, 0), -2);
        for (int v : new int[] {-1, 2, LEAST, Integer.MAX_VALUE}) due("15: what", x.confirmed(0, v), -2);
        StarTracker y = sky();
        y.add(0, 20, -20, -50);
        y.add(0, 20, -22, -50);
        y.see(3, 0, 0, 0, 0, 0);
        y.set(1, 0);
        y.add(1, 20, -21, -50);
        y.add(1, 20, -21, -50);
        due("15: of like ones the least", y.confirmed(3, 0), 6);
        due("15: of like ones the least", y.confirmed(3, 1), 1);
        due("15: the other", y.confirmed(4, 0), 7);
        due("15: without a turn none", inLine().confirmed(0, 0), -1);
        due("15: without a turn none", inLine().confirmed(0, 1), -1);
    }

    private static void p16Wrong() {
        StarTracker x = sky();
        due("16: none", x.wrong(), 0);
        x.see(5, 0, 0, 0, 0, 0);
        due("16: none", x.wrong(), 0);
        due("16: all in line, none confirmed", inLine().wrong(), 7);
        due("16: all in line, none confirmed", inLine().count(7), 3);
        // A mirror image has the sides of the stars, but no turn brings it there.
        StarTracker y = with(star(50, 1, 2), star(3, 60, 4), star(5, 6, 70), star(-40, -41, 30),
            spot(-50, 1, 2), spot(-3, 60, 4), spot(-5, 6, 70), spot(40, -41, 30));
        y.set(1, 0);
        due("16: all are taken", y.count(2), 4);
        due("16: by a mirror", y.wrong(), 12);
        due("16: by a mirror", y.count(7), 2);
        due("16: spot 2 is taken", y.taken(2, 0), 2);
        due("16: spot 2 is not confirmed", y.confirmed(2, 0), -1);
    }

    private static void p17Better() {
        StarTracker x = new StarTracker();
        due("17: nothing", x.better(0), 0);
        due("17: nothing", x.better(1), 0);
        for (int v : new int[] {-1, 2, LEAST, Integer.MAX_VALUE}) due("17: what", x.better(v), -2);
        // Sides 200 of stars, 288 of spots: they differ by 88.
        x = with(star(10, 0, 0), star(0, 10, 0), star(0, 0, 10), spot(12, 0, 0), spot(0, 12, 0), spot(0, 0, 12));
        due("17", x.better(0), 100);
        due("17", x.better(1), 3);
        due("17: TOLERANCE stays", x.count(5), 200);
        x.set(1, 0);
        due("17: in place of TOLERANCE", x.better(0), 100);
        due("17: TOLERANCE 0", x.count(3), 0);
        // 2 * 25 * 25 is 1250, less 200: 1050 is above 1000.
        StarTracker y = with(star(10, 0, 0), star(0, 10, 0), star(0, 0, 10), spot(25, 0, 0), spot(0, 25, 0), spot(0, 0, 25));
        y.set(0, 9999);
        y.set(1, 1050);
        y.set(3, 300);
        due("17: confirmed by 1050", y.count(3), 3);
        due("17: not by 1000", y.better(1), 0);
        due("17: not by 1000", y.better(0), 0);
        // Sides 2 and 1002: differ by 1000.
        StarTracker z = with(star(1, 0, 0), star(0, 1, 0), star(0, 0, 1), spot(1, 0, 0), spot(0, 1, 0), spot(5, 5, 31));
        z.set(0, 2000);
        z.set(3, 300);
        due("17: side", z.side(1, 0, 2), 1002);
        due("17: side", z.side(1, 1, 2), 1002);
        due("17: all by 1000", z.better(1), 3);
        due("17: 1000 is the last", z.better(0), 1000);
        StarTracker w = sky();
        w.see(6, 0, 1, 0, 0, 0);
        due("17: of like ones the least", w.better(0), 0);
        due("17: most", w.better(1), 6);
        StarTracker e = with(star(1, 0, 0), star(0, 1, 0), star(0, 0, 1), spot(1, 0, 0), spot(0, 1, 0), spot(5, 4, 4));
        // Sides of stars are 2.
        due("17: side", Math.max(e.side(1, 0, 2), e.side(1, 1, 2)), 50);
        due("17: 48 is within 50", e.better(0), 50);
        e = with(star(1, 0, 0), star(0, 1, 0), star(0, 0, 1), spot(1, 0, 0), spot(0, 1, 0), spot(0, 4, 6));
        due("17: side", e.side(1, 0, 2), 53);
        due("17: 51 is not", e.better(0), 100);
        e = with(star(1, 0, 0), star(0, 1, 0), star(0, 0, 1), spot(1, 0, 0), spot(0, 1, 0), spot(5, 6, 0));
        due("17: side", e.side(1, 0, 2), 52);
        due("17: 50 is", e.better(0), 50);
        // By 0 one match, by 50 another one: 2 are LEAST.
        StarTracker sum = with(star(1, 1, 1), star(11, 1, 1), star(1, 21, 1), star(1, 21, 2));
        sum.see(3, 0, 0, 0, 0, 0);
        sum.set(2, 2);
        due("17: both matches count by 50", sum.better(0), 50);
        due("17: both matches count by 50", sum.better(1), 3);
        StarTracker again = with(star(1, 1, 1), star(11, 1, 1), star(1, 21, 1));
        again.see(3, 0, 0, 0, 0, 0);
        due("17: three", again.better(1), 3);
        again.back(1);
        again.add(1, 90, 90, 90);
        due("17: anew", again.better(1), 0);
        w.set(2, 99);
        due("17: LEAST counts", w.better(1), 0);
    }

    private static void p18Spare() {
        StarTracker x = new StarTracker();
        due("18: no spots", x.spare(0), -1);
        due("18: no spots", x.spare(1), -1);
        for (int v : new int[] {-1, 2, LEAST, Integer.MAX_VALUE}) due("18: what", x.spare(v), -2);
        x.add(1, 1, 1, 1);
        due("18: one spot", x.spare(0), 0);
        due("18: no others", x.spare(1), 0);
        x = sky();
        x.see(5, 0, 1, 0, 0, 0);
        due("18: of like ones the least", x.spare(0), 0);
        due("18: all others", x.spare(1), 4);
        x = sky();
        x.add(1, 100, 0, 0);
        x.add(1, 0, 90, 10);
        x.add(1, 50, 50, 50);
        x.add(1, 10, 20, 95);
        x.add(1, -60, 60, 30);
        due("18: the odd one", x.spare(0), 2);
        due("18: the odd one", x.spare(1), 4);
        due("18: all spots stay", x.count(1), 5);
        due("18: the others' numbers stay", x.confirmed(3, 0), 2);
        x = sky();
        x.see(4, 0, 0, 0, 0, 0);
        due("18: before", x.spare(1), 3);
        x.back(1);
        x.back(1);
        x.add(1, 90, 90, 90);
        x.add(1, -90, 90, 91);
        due("18: anew", x.spare(1), 0);
        // Sides 100, 401, 501 of spots, 100, 400, 500 of stars.
        x = with(star(1, 1, 1), star(11, 1, 1), star(1, 21, 1), spot(50, 50, 50), spot(1, 1, 1), spot(11, 1, 1), spot(1, 21, 2));
        x.set(1, 1);
        due("18: no more than TOLERANCE", x.spare(1), 3);
        due("18: no more than TOLERANCE", x.spare(0), 0);
        x.set(1, 0);
        due("18: more than TOLERANCE", x.spare(1), 0);
        // Of three spots two are left, and they are no triangle.
        x = sky();
        x.see(3, 0, 0, 0, 0, 0);
        x.set(1, 0);
        due("18: without a triangle", x.spare(1), 0);
        due("18: without a triangle", x.spare(0), 0);
    }

    private static void p19Put() {
        StarTracker x = with(star(1, 2, 3), spot(4, 5, 6));
        for (int v : new int[] {-1, 4, LEAST, Integer.MAX_VALUE}) due("19: tray", x.put(v, 0, 0), -2);
        for (int v : new int[] {-1, 2, LEAST, Integer.MAX_VALUE}) due("19: kind", x.put(2, v, 0), -2);
        for (int v : new int[] {-1, 1, LEAST, Integer.MAX_VALUE}) {
            due("19: star", x.put(2, 0, v), -2);
            due("19: spot", x.put(2, 1, v), -2);
            due("19: BAD ahead of STORE", x.put(0, 1, v), -2);
        }
        due("19: no finding", x.count(8), 0);
        int[][] holds = {{1, -14}, {-14, 1}, {1, 2}, {1, 2}};
        for (int t = 0; t < 4; t++) {
            due("19: star to " + t, x.put(t, 0, 0), holds[t][0]);
            due("19: spot to " + t, x.put(t, 1, 0), holds[t][1]);
        }
        due("19: finding", x.count(8), 4);
        for (int n = 2; n <= 8; n++) due("19: more", x.put(0, 0, 0), n);
        due("19: FULL", x.put(0, 0, 0), -4);
        due("19: FULL ahead of STORE", x.put(0, 1, 0), -4);
        due("19: BAD ahead of FULL", x.put(0, 0, 1), -2);
        x.back(0);
        x.add(0, 9, 9, 9);
        due("19: stays what it was", x.thing(0, 7, 1), 1);
    }

    private static void p20Fork() {
        StarTracker x = with(star(1, 2, 3), spot(4, 5, 6));
        for (int v : new int[] {-1, 4, LEAST, Integer.MAX_VALUE}) {
            due("20: a", x.fork(v, 0), -2);
            due("20: b", x.fork(0, v), -2);
        }
        x.put(1, 1, 0);
        x.put(1, 1, 0);
        x.put(3, 0, 0);
        due("20", x.fork(1, 3), 2);
        due("20: a stays", x.thing(1, 1, 0), 1);
        due("20: things", x.thing(3, 0, 3), 6);
        due("20: what it holds", x.put(3, 0, 0), -14);
        due("20: what it holds", x.put(3, 1, 0), 3);
        due("20: they part", x.count(6), 5);
        x.take(1);
        due("20: they part", x.thing(3, 1, 1), 4);
        due("20: itself", x.fork(3, 3), 3);
        due("20: itself", x.thing(3, 2, 2), 5);
        due("20: empty", x.fork(2, 3), 0);
        due("20: emptied", x.thing(3, 0, 0), LEAST);
        due("20: holds both again", x.put(3, 0, 0), 1);
        due("20: 0 as 2", x.fork(2, 0), 0);
        due("20: 0 holds spots then", x.put(0, 1, 0), 1);
        due("20: 2 has not", x.thing(2, 0, 0), LEAST);
    }

    private static void p21Take() {
        StarTracker x = with(star(1, 2, 3), spot(4, 5, 6));
        for (int v : new int[] {-1, 4, LEAST, Integer.MAX_VALUE}) due("21: tray", x.take(v), -2);
        due("21: NOT", x.take(2), -3);
        x.put(2, 0, 0);
        x.put(2, 1, 0);
        due("21: the last", x.take(2), 1);
        due("21: the first is left", x.thing(2, 0, 1), 1);
        due("21: the last is gone", x.thing(2, 1, 1), LEAST);
        due("21", x.take(2), 0);
        due("21: NOT", x.take(2), -3);
        due("21: no finding", x.count(8), 0);
    }

    private static void p22Thing() {
        StarTracker x = with(star(1, -2, 3), spot(4, 5, -6));
        x.put(3, 1, 0);
        x.put(3, 0, 0);
        int[][] want = {{1, 4, 5, -6}, {0, 1, -2, 3}};
        for (int i = 0; i < 2; i++)
            for (int w = 0; w < 4; w++) due("22: thing(3, " + i + ", " + w + ")", x.thing(3, i, w), want[i][w]);
        for (int v : new int[] {-1, 4, LEAST, Integer.MAX_VALUE}) {
            due("22: tray", x.thing(v, 0, 0), LEAST);
            due("22: what", x.thing(3, 0, v), LEAST);
        }
        for (int v : new int[] {-1, 2, 7, 8, LEAST, Integer.MAX_VALUE}) due("22: none", x.thing(3, v, 0), LEAST);
        due("22: no finding", x.count(8), 0);
    }

    private static void p23Share() {
        StarTracker x = with(star(3, 4, 0), spot(1, 2, 2));
        x.put(2, 0, 0);
        x.put(2, 1, 0);
        due("23: 11 by 25", x.share(2, 0, 1), Float.floatToIntBits(0.44f));
        due("23: 11 by 9", x.share(2, 1, 0), Float.floatToIntBits(11f / 9f));
        for (int v : new int[] {-1, 4, LEAST, Integer.MAX_VALUE}) due("23: tray", x.share(v, 0, 0), LEAST);
        for (int v : new int[] {-1, 2, 8, LEAST, Integer.MAX_VALUE}) {
            due("23: i", x.share(2, v, 0), LEAST);
            due("23: j", x.share(2, 0, v), LEAST);
        }
        Random dice = new Random(23);
        int[] spreads = {1, 2, 5, 100};
        for (int n = 0; n < 60000; n++) {
            int spread = spreads[n % 4], wide = spreads[n / 4 % 4];
            int[] a = any(dice, spread), b = any(dice, wide);
            shareOf(a, b);
        }
        int[][] edges = {{100, 100, 100}, {-100, -100, -100}, {1, 0, 0}, {0, 0, -1}, {100, 0, 0}, {0, 1, 1}, {64, 0, 0}, {99, 100, 100}};
        for (int[] a : edges) for (int[] b : edges) shareOf(a, b);
    }
    private static int[] any(Random dice, int spread) {
        int[] d = new int[3];
        for (int k = 0; k < 3; k++) d[k] = dice.nextInt(2 * spread + 1) - spread;
        if (d[0] == 0 && d[1] == 0 && d[2] == 0) d[2] = 1;
        return d;
    }
    private static void shareOf(int[] a, int[] b) {
        StarTracker x = with(star(a[0], a[1], a[2]), spot(b[0], b[1], b[2]));
        x.put(2, 0, 0);
        x.put(2, 1, 0);
        float ab = a[0] * b[0] + a[1] * b[1] + a[2] * b[2], aa = a[0] * a[0] + a[1] * a[1] + a[2] * a[2];
        due("23: " + ab + " by " + aa, x.share(2, 0, 1), Float.floatToIntBits(ab / aa));
    }

    private static void p24Sheet() {
        StarTracker x = new StarTracker();
        for (int v : new int[] {-1, 4, LEAST, Integer.MAX_VALUE}) due("24: sheet", x.sheet(v, 0, 1), -2);
        for (int v : new int[] {-1, 3, LEAST, Integer.MAX_VALUE}) {
            due("24: form", x.sheet(0, v, 1), -2);
            due("24: BAD ahead of SIZE", x.sheet(0, v, -1), -2);
        }
        due("24: 61", x.sheet(0, 0, 61), -2);
        due("24: greatest int", x.sheet(0, 0, Integer.MAX_VALUE), -2);
        due("24: no finding", x.count(8), 0);
        due("24: SIZE", x.sheet(0, 0, -1), -15);
        due("24: finding", x.count(8), 5);
        due("24: SIZE", x.sheet(0, 2, LEAST), -15);
        due("24: still LOST", x.lose(0), -11);
        due("24: 60", x.sheet(3, 2, 60), 60);
        due("24: 0 at first", x.get(3, 2, 59), 0);
        x.lay(3, 2, 0, 77);
        due("24: SIZE changes nothing", x.sheet(3, 2, -5), -15);
        due("24: SIZE changes nothing", x.get(3, 2, 0), 77);
        due("24: new", x.sheet(3, 2, 1), 1);
        due("24: 0 anew", x.get(3, 2, 0), 0);
        due("24: shorter", x.get(3, 2, 1), LEAST);
        due("24: no items", x.sheet(3, 0, 0), 0);
        due("24: no items, but not LOST", x.lose(3), 0);
        for (int f = 0; f < 3; f++) {
            x.sheet(1, f, 5);
            for (int g = 0; g < 3; g++) due("24: form " + f + " as " + g, x.lay(1, g, 4, 9), f == g ? 1 : -13);
        }
    }

    private static void p25Lose() {
        StarTracker x = new StarTracker();
        for (int v : new int[] {-1, 4, LEAST, Integer.MAX_VALUE}) due("25: sheet", x.lose(v), -2);
        due("25: no finding", x.count(8), 0);
        x.sheet(2, 1, 33);
        x.lay(2, 1, 0, 5);
        due("25", x.lose(2), 33);
        due("25: NULL", x.lose(2), -11);
        due("25: finding", x.count(8), 1);
        due("25: LOST", x.get(2, 1, 0), LEAST);
        x.sheet(2, 1, 1);
        due("25: nothing comes back", x.get(2, 1, 0), 0);
    }

    private static void p26Lay() {
        StarTracker x = new StarTracker();
        x.sheet(0, 0, 3);
        x.sheet(1, 1, 3);
        x.sheet(2, 2, 3);
        int[] values = {0, 1, -1, 127, 128, 255, 256, -128, -129, 32767, 32768, -32769, 65536, Integer.MAX_VALUE, LEAST};
        for (int v : values) {
            for (int f = 0; f < 3; f++) {
                due("26: lay", x.lay(f, f, 2, v), 1);
                due("26: " + v + " of form " + f, x.get(f, f, 2), f == 0 ? (byte) v : f == 1 ? (short) v : v);
                due("26: not the one ahead", x.get(f, f, 1), 0);
            }
        }
        for (int v : new int[] {-1, 4, LEAST, Integer.MAX_VALUE}) due("26: sheet", x.lay(v, 0, 0, 0), -2);
        for (int v : new int[] {-1, 3, LEAST, Integer.MAX_VALUE}) {
            due("26: form", x.lay(0, v, 0, 0), -2);
            due("26: BAD ahead of NULL", x.lay(3, v, 0, 0), -2);
        }
        due("26: NULL ahead of the others", x.lay(3, 1, -1, 0), -11);
        due("26: finding", x.count(8), 1);
        due("26: CAST ahead of INDEX", x.lay(0, 1, 3, 0), -13);
        due("26: finding", x.count(8), 3);
        for (int v : new int[] {-1, 3, 60, LEAST, Integer.MAX_VALUE}) due("26: INDEX", x.lay(0, 0, v, 0), -12);
        due("26: finding", x.count(8), 2);
    }

    private static void p27Get() {
        StarTracker x = new StarTracker();
        x.sheet(0, 0, 3);
        x.lay(0, 0, 1, 300);
        due("27", x.get(0, 0, 1), 44);
        for (int v : new int[] {-1, 4, LEAST, Integer.MAX_VALUE}) due("27: sheet", x.get(v, 0, 0), LEAST);
        for (int v : new int[] {-1, 3, LEAST, Integer.MAX_VALUE}) due("27: form", x.get(3, v, 0), LEAST);
        due("27: no finding", x.count(8), 0);
        due("27: NULL", x.get(1, 0, 9), LEAST);
        due("27: NULL", x.count(8), 1);
        due("27: CAST ahead of INDEX", x.get(0, 2, -1), LEAST);
        due("27: CAST", x.count(8), 3);
        for (int v : new int[] {-1, 3, LEAST, Integer.MAX_VALUE}) {
            x.lose(1);
            due("27: INDEX", x.get(0, 0, v), LEAST);
            due("27: INDEX", x.count(8), 2);
        }
        due("27: an answer", x.get(0, 0, 0), 0);
        due("27: is no finding", x.count(8), 2);
    }

    private static StarTracker numbered(int form) {
        StarTracker x = new StarTracker();
        x.sheet(0, form, 6);
        x.sheet(1, form, 4);
        x.sheet(2, (form + 1) % 3, 6);
        for (int i = 0; i < 6; i++) x.lay(0, form, i, i + 1);
        return x;
    }
    private static void row(String what, StarTracker x, int s, int form, int... items) {
        for (int i = 0; i < items.length; i++) due(what + ": item " + i, x.get(s, form, i), items[i]);
    }

    private static void p28Copy() {
        for (int form = 0; form < 3; form++) {
            StarTracker x = numbered(form);
            due("28", x.copy(0, 3, 1, 1, 3), 1);
            row("28", x, 1, form, 0, 4, 5, 6);
            due("28: forwards", x.copy(0, 0, 0, 1, 5), 1);
            row("28: as they were", x, 0, form, 1, 1, 2, 3, 4, 5);
            due("28: backwards", x.copy(0, 2, 0, 0, 4), 1);
            row("28: as they were", x, 0, form, 2, 3, 4, 5, 4, 5);
            due("28: none", x.copy(0, 6, 1, 4, 0), 1);
            for (int v : new int[] {-1, 4, LEAST, Integer.MAX_VALUE}) {
                due("28: s", x.copy(v, 0, 0, 0, 0), -2);
                due("28: t", x.copy(3, 0, v, 0, 0), -2);
            }
            due("28: no finding", x.count(8), 0);
            due("28: NULL s", x.copy(3, -1, 2, 0, 0), -11);
            due("28: NULL t", x.copy(2, -1, 3, 0, 0), -11);
            due("28: finding", x.count(8), 1);
            due("28: STORE ahead of INDEX", x.copy(0, -1, 2, 0, 0), -14);
            due("28: STORE of none", x.copy(0, 0, 2, 0, 0), -14);
            due("28: finding", x.count(8), 4);
            for (int v : FAR_OFF) {
                due("28: i", x.copy(0, v, 1, 0, 1), -12);
                due("28: j", x.copy(0, 0, 1, v, 1), -12);
                due("28: n", x.copy(0, 0, 1, 0, v), -12);
                due("28: i and n", x.copy(0, v, 1, 0, v), -12);
                due("28: all", x.copy(0, v, 1, v, v), -12);
            }
            due("28: not so many", x.copy(0, 3, 1, 0, 4), -12);
            due("28: not so many", x.copy(0, 0, 1, 2, 3), -12);
            due("28: behind the end", x.copy(0, 7, 1, 0, 0), -12);
            due("28: behind the end", x.copy(0, 0, 1, 5, 0), -12);
            due("28: finding", x.count(8), 2);
            row("28: nothing changed", x, 1, form, 0, 4, 5, 6);
        }
    }

    private static void p29Write() {
        StarTracker x = sky();
        x.see(4, 0, 0, 1, 0, 0);
        x.add(1, 33, 33, -33);
        x.back(1);
        for (int v : new int[] {-1, 4, LEAST, Integer.MAX_VALUE}) due("29: sheet", x.write(v), -2);
        due("29: no finding", x.count(8), 0);
        due("29: NULL", x.write(0), -11);
        due("29: finding", x.count(8), 1);
        x.add(1, 99, 99, -99);
        for (int form = 0; form < 3; form++) {
            x.sheet(0, form, 7);
            for (int i = 0; i < 7; i++) x.lay(0, form, i, 50);
            due("29: as many as spots", x.write(0), 5);
            row("29", x, 0, form, 0, 1, 2, 3, -1, 50, 50);
            x.sheet(1, form, 2);
            due("29: as many as items", x.write(1), 2);
            row("29", x, 1, form, 0, 1);
        }
        x.sheet(1, 0, 0);
        due("29: no items", x.write(1), 0);
        due("29: no spots", x.see(0, 0, 0, 0, 0, 0), 0);
        due("29: no spots", x.write(0), 0);
    }

    private static void p30Count() {
        StarTracker x = sky();
        x.see(5, 0, 0, 1, 0, 0);
        x.set(1, 150);
        x.add(1, 99, 99, -99);
        x.put(0, 0, 0);
        x.put(3, 1, 0);
        x.put(2, 1, 0);
        int[] want = {6, 6, 5, 5, 30, 150, 3, 0, 0};
        for (int w = 0; w < 9; w++) due("30: count(" + w + ")", x.count(w), want[w]);
        for (int v : new int[] {-1, 9, LEAST, Integer.MAX_VALUE}) due("30: what", x.count(v), -2);
        due("30: WRONG", inLine().count(7), 3);
        x.put(0, 1, 0);
        due("30: STORE", x.count(8), 4);
        x.lose(0);
        due("30: NULL", x.count(8), 1);
        x.add(9, 9, 9, 9);
        x.take(1);
        x.sheet(0, 0, 9);
        due("30: BAD, NOT and answers are none", x.count(8), 1);
    }

    private static long digestByCalls(StarTracker x) {
        long h = 17;
        int stars = x.count(0), spots = x.count(1);
        for (int w = 0; w <= 7; w++) h = 31 * h + x.count(w);
        for (int w = 0; w <= 3; w++) h = 31 * h + x.looks(w);
        for (int p = 0; p < spots; p++) {
            for (int w = 0; w < 2; w++) h = 31 * h + x.taken(p, w);
            for (int w = 0; w < 2; w++) h = 31 * h + x.confirmed(p, w);
            for (int i = 0; i < stars; i++) h = 31 * h + x.votes(p, i);
        }
        for (int i = 0; i < stars; i++) {
            for (int w = 0; w < 3; w++) h = 31 * h + x.place(i, w);
            for (int k = 0; k < 3; k++) h = 31 * h + x.key(0, 0, 1, i, k);
        }
        h = 31 * h + x.turn();
        h = 31 * h + x.wrong();
        for (int w = 0; w < 2; w++) h = 31 * h + x.better(w);
        for (int w = 0; w < 2; w++) h = 31 * h + x.spare(w);
        for (int t = 0; t < 4; t++)
            for (int i = 0; i < 4; i++) {
                for (int w = 0; w < 4; w++) h = 31 * h + x.thing(t, i, w);
                h = 31 * h + x.share(t, 0, i);
            }
        return h;
    }

    private static void p31Digest() {
        StarTracker[] all = {new StarTracker(), sky(), inLine(), shrunk(), with(star(1, 1, 1)), with(spot(1, 1, 1))};
        for (StarTracker x : all) {
            due("31", x.digest(), digestByCalls(x));
            x.see(Math.min(8, x.count(0)), 1, 2, 3, 4, 2);
            for (int n = 0; n < 10; n++) x.put(n % 4, n % 3 % 2, n / 4);
            due("31: by calls", x.digest(), digestByCalls(x));
            long h = x.digest();
            due("31: again", x.digest(), h);
            x.lose(0);
            x.sheet(0, 0, 9);
            x.lay(0, 0, 0, 9);
            due("31: findings and sheets are not in it", x.digest(), h);
            x.set(1, 77);
            due("31: TOLERANCE is", x.digest() == h ? 1 : 0, 0);
        }
    }

    /** 12 stars and 8 spots, all triangles looked at, all orders matching. */
    private static void asMuchAsCanBe() {
        StarTracker x = new StarTracker();
        for (int i = 0; i < 12; i++) x.add(0, i % 3, i / 3 % 2, 1 + i / 6);
        x.see(8, 1, 2, 3, 4, 3);
        x.set(0, 9999);
        x.set(1, 9999);
        due("all: looked at", x.looks(2), 220 * 56);
        due("all: match", x.looks(3), 220 * 56 * 6);
        due("all: votes", x.count(4), 220 * 56 * 18);
        for (int p = 0; p < 8; p++) for (int i = 0; i < 12; i++) due("all: votes of a pair", x.votes(p, i), 21 * 55 * 2);
        due("all: taken", x.count(2), 8);
        due("all: digest", x.digest(), digestByCalls(x));
    }

    private static void refusalsChangeNothing() {
        StarTracker x = sky();
        x.see(6, 1, 1, 0, 5, 1);
        x.put(0, 0, 1);
        x.put(3, 1, 1);
        x.sheet(0, 1, 9);
        x.lay(0, 1, 8, 8);
        long h = x.digest();
        for (int v : FAR_OFF) {
            x.add(v, 1, 1, 1); x.add(0, v == -1 ? 101 : v, 0, 0); x.back(v); x.at(v, 0, 0); x.at(0, v, v); x.read(v, 0); x.read(0, v);
            x.see(v, 0, 0, 0, 0, 0); x.see(2, v, 0, 0, 0, 0); x.see(2, 0, 0, 0, 0, v); x.set(v, 1); x.set(0, v); x.set(1, v);
            x.side(v, 0, 0); x.side(0, v, v); x.key(v, 0, 1, 2, 0); x.key(0, 0, 1, v, 0); x.looks(v); x.votes(v, v);
            x.taken(v, v); x.place(v, v); x.confirmed(v, v); x.better(v); x.spare(v);
            x.put(v, 0, 0); x.put(0, v, 0); x.put(0, 0, v); x.put(0, 1, 0); x.fork(v, 0); x.fork(0, v); x.take(v); x.take(1);
            x.thing(v, 0, 0); x.thing(0, v, v); x.share(v, 0, 0); x.share(0, v, 0); x.share(0, 0, v);
            x.sheet(v, 0, 1); x.sheet(0, v, 1); x.lose(v); x.lay(v, 0, 0, 0); x.lay(0, v, 0, 0); x.lay(0, 1, v, 0); x.lay(0, 0, 0, 0);
            x.get(v, 0, 0); x.get(0, 1, v); x.copy(v, 0, 0, 0, 1); x.copy(0, v, 0, v, v); x.write(v); x.count(v);
            due("refusals: the digest", x.digest(), h);
            due("refusals: the sheet", x.get(0, 1, 8), 8);
        }
        due("refusals: BAD sizes of sheets", x.sheet(0, 1, 61), -2);
        due("refusals: the sheet", x.get(0, 1, 8), 8);
    }
}
