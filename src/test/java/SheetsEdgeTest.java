import java.math.BigInteger;

/** The edges of promises 24 to 31: sheets, counts, the digest. */
public final class SheetsEdgeTest {
    public static void main(String[] args) throws Exception {
        Edge.run(SheetsEdgeTest.class);
    }

    /** Sheet 0 of a form with items 1, 2, .. ; sheet 1 of the same form, empty of numbers; sheet 2 of the next form. */
    private static StarTracker numbered(int form, int first, int second) {
        StarTracker x = new StarTracker();
        x.sheet(0, form, first);
        x.sheet(1, form, second);
        x.sheet(2, (form + 1) % 3, 6);
        for (int i = 0; i < first; i++) x.lay(0, form, i, i + 1);
        return x;
    }

    // ---- promise 24

    @Edge.Says("a row of a FORM: 0 bytes, 1 shorts, 2 ints, of 0 to 60 items (0 at first).")
    static void sheetHasFrom0To60Items() {
        for (int form = 0; form < 3; form++) {
            for (int n : new int[] {0, 1, 2, 59, 60}) {
                StarTracker x = new StarTracker();
                Edge.due("sheet", x.sheet(3, form, n), n);
                for (int i = 0; i < n; i++) Edge.due("0 at first", x.get(3, form, i), 0);
                Edge.due("no finding", x.count(8), 0);
                Edge.due("no such item", x.get(3, form, n), Edge.LEAST_INT);
                Edge.due("INDEX", x.count(8), 2);
                Edge.due("lose", x.lose(3), n);
            }
        }
    }

    @Edge.Says("A SHEET is a new row of a FORM with n items: n. BAD: SHEET, FORM, above 60; SIZE.")
    static void sheetRefusesAbove60() {
        for (int n : new int[] {61, 62, 256, 65536, 65536 + 60, Edge.GREATEST_INT}) {
            StarTracker x = new StarTracker();
            Edge.due("sheet of " + n, x.sheet(0, 0, n), Edge.BAD);
            Edge.due("no finding", x.count(8), 0);
            Edge.due("LOST still", x.lose(0), Edge.NULL);
        }
    }

    @Edge.Says("5 SIZE: below 0.")
    static void sheetRefusesBelow0() {
        for (int n : new int[] {-1, -2, -61, Edge.LEAST_INT, Edge.LEAST_INT + 1}) {
            StarTracker x = new StarTracker();
            Edge.due("sheet of " + n, x.sheet(0, 2, n), Edge.SIZE);
            Edge.due("finding", x.count(8), 5);
            Edge.due("LOST still", x.lose(0), Edge.NULL);
            x.sheet(0, Edge.SHORTS, 2);
            Edge.layAll(x, 0, Edge.SHORTS, 7, 8);
            Edge.due("over one that is there", x.sheet(0, Edge.BYTES, n), Edge.SIZE);
            Edge.items("it stays", x, 0, Edge.SHORTS, 7, 8);
        }
    }

    @Edge.Says("BAD: SHEET, FORM, above 60; SIZE.")
    static void sheetTellsBadAheadOfSize() {
        StarTracker x = new StarTracker();
        for (int v : Edge.outside(0, 3)) {
            Edge.due("sheet " + v, x.sheet(v, 0, 1), Edge.BAD);
            Edge.due("sheet " + v + " of -1", x.sheet(v, 0, -1), Edge.BAD);
        }
        for (int v : Edge.outside(0, 2)) {
            Edge.due("form " + v, x.sheet(0, v, 1), Edge.BAD);
            Edge.due("form " + v + " of -1", x.sheet(0, v, -1), Edge.BAD);
        }
        Edge.due("no finding", x.count(8), 0);
        for (int s = 0; s < 4; s++) Edge.due("all LOST still", x.lose(s), Edge.NULL);
    }

    @Edge.Says("A SHEET is a new row")
    static void sheetIsNewEachTime() {
        for (int form = 0; form < 3; form++) {
            StarTracker x = numbered(form, 6, 4);
            Edge.due("shorter", x.sheet(0, form, 2), 2);
            Edge.items("0 anew", x, 0, form, 0, 0);
            Edge.due("shorter", x.lay(0, form, 2, 1), Edge.INDEX);
            Edge.due("longer", x.sheet(0, form, 6), 6);
            Edge.items("0 anew", x, 0, form, 0, 0, 0, 0, 0, 0);
            int other = (form + 1) % 3;
            Edge.due("another form", x.sheet(0, other, 3), 3);
            Edge.due("the form it had", x.lay(0, form, 0, 1), Edge.CAST);
            Edge.due("the form it has", x.lay(0, other, 2, 1), 1);
            Edge.due("to none", x.sheet(0, form, 0), 0);
            Edge.due("but not LOST", x.lose(0), 0);
        }
    }

    // ---- promise 25

    @Edge.Says("It is LOST: how many items it had. BAD; NULL.")
    static void loseOfEachLength() {
        for (int form = 0; form < 3; form++) {
            for (int n : new int[] {0, 1, 59, 60}) {
                StarTracker x = new StarTracker();
                x.sheet(2, form, n);
                Edge.due("lose", x.lose(2), n);
                Edge.due("again", x.lose(2), Edge.NULL);
                Edge.due("finding", x.count(8), 1);
                Edge.due("LOST", x.lay(2, form, 0, 0), Edge.NULL);
            }
        }
    }

    @Edge.Says("It is LOST")
    static void whatIsLostDoesNotComeBack() {
        StarTracker x = numbered(Edge.INTS, 3, 3);
        x.lay(1, Edge.INTS, 0, 9);
        Edge.due("lose", x.lose(0), 3);
        Edge.items("the others stay", x, 1, Edge.INTS, 9, 0, 0);
        x.sheet(0, Edge.INTS, 3);
        Edge.items("0 anew", x, 0, Edge.INTS, 0, 0, 0);
    }

    @Edge.Says("how many items it had. BAD; NULL.")
    static void loseRefuses() {
        StarTracker x = numbered(Edge.BYTES, 2, 2);
        for (int v : Edge.outside(0, 3)) Edge.due("sheet " + v, x.lose(v), Edge.BAD);
        Edge.due("no finding", x.count(8), 0);
        Edge.due("NULL", x.lose(3), Edge.NULL);
        Edge.items("the others stay", x, 0, Edge.BYTES, 1, 2);
    }

    // ---- promise 26

    @Edge.Says("becomes v (the lowest bits that it has)")
    static void layKeepsTheLowestBitsOfBytes() {
        int[][] due = {{0, 0}, {127, 127}, {128, -128}, {129, -127}, {255, -1}, {256, 0}, {257, 1}, {-1, -1}, {-128, -128}, {-129, 127},
            {-256, 0}, {32768, 0}, {65535, -1}, {0x12345678, 0x78}, {0x7FFFFF80, -128}, {Edge.GREATEST_INT, -1}, {Edge.LEAST_INT, 0}};
        layAndGet(Edge.BYTES, due);
    }

    @Edge.Says("becomes v (the lowest bits that it has)")
    static void layKeepsTheLowestBitsOfShorts() {
        int[][] due = {{0, 0}, {128, 128}, {255, 255}, {32767, 32767}, {32768, -32768}, {32769, -32767}, {65535, -1}, {65536, 0}, {65537, 1},
            {-1, -1}, {-129, -129}, {-32768, -32768}, {-32769, 32767}, {0x12345678, 0x5678}, {0x7FFF8000, -32768},
            {Edge.GREATEST_INT, -1}, {Edge.LEAST_INT, 0}};
        layAndGet(Edge.SHORTS, due);
    }

    @Edge.Says("becomes v (the lowest bits that it has)")
    static void layKeepsAllBitsOfInts() {
        int[][] due = {{0, 0}, {128, 128}, {32768, 32768}, {65536, 65536}, {-1, -1}, {0x12345678, 0x12345678},
            {Edge.GREATEST_INT, Edge.GREATEST_INT}, {Edge.LEAST_INT, Edge.LEAST_INT}, {Edge.LEAST_INT + 1, Edge.LEAST_INT + 1}};
        layAndGet(Edge.INTS, due);
    }

    private static void layAndGet(int form, int[][] due) {
        StarTracker x = new StarTracker();
        x.sheet(1, form, 3);
        for (int[] d : due) {
            Edge.due("lay " + d[0], x.lay(1, form, 1, d[0]), 1);
            Edge.items(d[0] + " laid", x, 1, form, 0, d[1], 0);
        }
        Edge.due("no finding", x.count(8), 0);
    }

    @Edge.Says("2 INDEX: there is no such item")
    static void layFromTheFirstItemToTheLast() {
        for (int form = 0; form < 3; form++) {
            for (int n : new int[] {0, 1, 2, 59, 60}) {
                StarTracker x = new StarTracker();
                x.sheet(0, form, n);
                for (int i = 0; i < n; i++) Edge.due("item " + i, x.lay(0, form, i, i + 1), 1);
                for (int i = 0; i < n; i++) Edge.due("item " + i, x.get(0, form, i), i + 1);
                Edge.due("no finding", x.count(8), 0);
                for (int v : Edge.outside(0, n - 1)) {
                    Edge.due("item " + v + " of " + n, x.lay(0, form, v, 9), Edge.INDEX);
                    Edge.due("finding", x.count(8), 2);
                }
                if (n > 0) Edge.due("the last stays", x.get(0, form, n - 1), n);
                if (n > 0) Edge.due("the first stays", x.get(0, form, 0), 1);
            }
        }
    }

    @Edge.Says("Item i, treated as of a FORM, becomes v (the lowest bits that it has): 1. BAD; NULL; CAST; INDEX.")
    static void layTellsBadThenNullThenCastThenIndex() {
        StarTracker x = numbered(Edge.BYTES, 3, 0);
        for (int v : Edge.outside(0, 3)) Edge.due("sheet " + v, x.lay(v, 0, 9, 0), Edge.BAD);
        for (int v : Edge.outside(0, 2)) {
            Edge.due("form " + v, x.lay(0, v, 0, 0), Edge.BAD);
            Edge.due("form " + v + ", LOST, no item", x.lay(3, v, -1, 0), Edge.BAD);
            Edge.due("form " + v + ", no item", x.lay(0, v, 3, 0), Edge.BAD);
        }
        Edge.due("no finding", x.count(8), 0);
        Edge.due("NULL ahead of INDEX", x.lay(3, 0, -1, 0), Edge.NULL);
        Edge.due("CAST ahead of INDEX", x.lay(0, 1, 3, 0), Edge.CAST);
        Edge.due("CAST ahead of INDEX", x.lay(0, 2, -1, 0), Edge.CAST);
        Edge.due("finding", x.count(8), 3);
        Edge.due("CAST of a sheet of 0 items", x.lay(1, 1, 0, 0), Edge.CAST);
        Edge.due("INDEX of a sheet of 0 items", x.lay(1, 0, 0, 0), Edge.INDEX);
        Edge.due("finding", x.count(8), 2);
        Edge.items("nothing changed", x, 0, Edge.BYTES, 1, 2, 3);
    }

    @Edge.Says("3 CAST: it has another FORM")
    static void castOfEachFormAsEach() {
        for (int form = 0; form < 3; form++) {
            for (int as = 0; as < 3; as++) {
                StarTracker x = numbered(form, 3, 3);
                Edge.due("lay " + form + " as " + as, x.lay(0, as, 0, 77), form == as ? 1 : Edge.CAST);
                Edge.due("get " + form + " as " + as, x.get(0, as, 1), form == as ? 2 : Edge.LEAST_INT);
                Edge.due("finding", x.count(8), form == as ? 0 : 3);
                Edge.due("the item", x.get(0, form, 0), form == as ? 77 : 1);
            }
        }
    }

    // ---- promise 27

    @Edge.Says("Item i of it. BAD: the least int; so are NULL, CAST, INDEX (count() 8 tells).")
    static void getTellsByCount8WhatItWas() {
        StarTracker x = numbered(Edge.SHORTS, 3, 0);
        for (int v : Edge.outside(0, 3)) Edge.due("sheet " + v, x.get(v, 1, 0), Edge.LEAST_INT);
        for (int v : Edge.outside(0, 2)) {
            Edge.due("form " + v, x.get(0, v, 0), Edge.LEAST_INT);
            Edge.due("form " + v + ", LOST", x.get(3, v, 0), Edge.LEAST_INT);
            Edge.due("form " + v + ", no item", x.get(0, v, 3), Edge.LEAST_INT);
        }
        Edge.due("BAD is no finding", x.count(8), 0);
        Edge.due("NULL ahead of INDEX", x.get(3, 1, -1), Edge.LEAST_INT);
        Edge.due("NULL", x.count(8), 1);
        Edge.due("CAST ahead of INDEX", x.get(0, 0, 3), Edge.LEAST_INT);
        Edge.due("CAST", x.count(8), 3);
        Edge.due("CAST of a sheet of 0 items", x.get(1, 2, 0), Edge.LEAST_INT);
        Edge.due("CAST", x.count(8), 3);
        Edge.due("INDEX of a sheet of 0 items", x.get(1, 1, 0), Edge.LEAST_INT);
        Edge.due("INDEX", x.count(8), 2);
        for (int v : Edge.outside(0, 2)) {
            x.lose(3);
            Edge.due("item " + v, x.get(0, 1, v), Edge.LEAST_INT);
            Edge.due("INDEX", x.count(8), 2);
        }
    }

    @Edge.Says("Item i of it.")
    static void getOfTheLeastIntIsNoFinding() {
        StarTracker x = new StarTracker();
        x.sheet(0, Edge.INTS, 60);
        x.lay(0, Edge.INTS, 59, Edge.LEAST_INT);
        Edge.due("the item", x.get(0, Edge.INTS, 59), Edge.LEAST_INT);
        Edge.due("no finding", x.count(8), 0);
    }

    // ---- promise 28

    @Edge.Says("n items of SHEET s, from i on, come to SHEET t (perhaps s, as they were), from j on: 1.")
    static void copyOfNoneAndOfAll() {
        for (int form = 0; form < 3; form++) {
            StarTracker x = numbered(form, 60, 60);
            Edge.due("all", x.copy(0, 0, 1, 0, 60), 1);
            for (int i = 0; i < 60; i++) Edge.due("item " + i, x.get(1, form, i), i + 1);
            Edge.due("one more than all", x.copy(0, 0, 1, 0, 61), Edge.INDEX);
            x = numbered(form, 6, 4);
            for (int i = 0; i <= 6; i++)
                for (int j = 0; j <= 4; j++) Edge.due("none from " + i + " to " + j, x.copy(0, i, 1, j, 0), 1);
            Edge.items("none came", x, 1, form, 0, 0, 0, 0);
            Edge.due("the last to the first", x.copy(0, 5, 1, 0, 1), 1);
            Edge.due("the first to the last", x.copy(0, 0, 1, 3, 1), 1);
            Edge.items("one each", x, 1, form, 6, 0, 0, 1);
            Edge.items("s stays", x, 0, form, 1, 2, 3, 4, 5, 6);
            x = numbered(form, 0, 0);
            Edge.due("none of none", x.copy(0, 0, 1, 0, 0), 1);
            Edge.due("one of none", x.copy(0, 0, 1, 0, 1), Edge.INDEX);
            Edge.due("none of none to itself", x.copy(0, 0, 0, 0, 0), 1);
        }
    }

    @Edge.Says("(perhaps s, as they were)")
    static void copyWithinOneSheet() {
        for (int form = 0; form < 3; form++) {
            for (int i = 0; i <= 6; i++) {
                for (int j = 0; j <= 6; j++) {
                    for (int n = 0; n <= 6 - Math.max(i, j); n++) {
                        StarTracker x = numbered(form, 6, 6);
                        int[] due = {1, 2, 3, 4, 5, 6};
                        for (int k = 0; k < n; k++) due[j + k] = i + k + 1;
                        Edge.due("copy", x.copy(0, i, 0, j, n), 1);
                        Edge.items(n + " from " + i + " to " + j, x, 0, form, due);
                    }
                }
            }
        }
    }

    @Edge.Says("INDEX: below 0, not so many.")
    static void copyRefusesBelow0AndNotSoMany() {
        for (int form = 0; form < 3; form++) {
            for (int i = -1; i <= 7; i++) {
                for (int j = -1; j <= 5; j++) {
                    for (int n = -1; n <= 7; n++) {
                        boolean is = i >= 0 && j >= 0 && n >= 0 && i + n <= 6 && j + n <= 4;
                        StarTracker x = numbered(form, 6, 4);
                        Edge.due("copy(0, " + i + ", 1, " + j + ", " + n + ")", x.copy(0, i, 1, j, n), is ? 1 : Edge.INDEX);
                        Edge.due("finding", x.count(8), is ? 0 : 2);
                        int[] due = new int[4];
                        for (int k = 0; is && k < n; k++) due[j + k] = i + k + 1;
                        Edge.items("what came", x, 1, form, due);
                    }
                }
            }
        }
    }

    @Edge.Says("INDEX: below 0, not so many.")
    static void copyRefusesNumbersThatWrap() {
        int[] far = {Edge.LEAST_INT, Edge.LEAST_INT + 1, Edge.GREATEST_INT, Edge.GREATEST_INT - 1, -1, 65536};
        StarTracker x = numbered(Edge.INTS, 6, 4);
        for (int v : far) {
            Edge.due("i " + v, x.copy(0, v, 1, 0, 1), Edge.INDEX);
            Edge.due("j " + v, x.copy(0, 0, 1, v, 1), Edge.INDEX);
            Edge.due("n " + v, x.copy(0, 1, 1, 1, v), Edge.INDEX);
            for (int w : far) {
                Edge.due("i " + v + " n " + w, x.copy(0, v, 1, 0, w), Edge.INDEX);
                Edge.due("j " + v + " n " + w, x.copy(0, 0, 1, v, w), Edge.INDEX);
                Edge.due("i and j " + v + " n " + w, x.copy(0, v, 1, v, w), Edge.INDEX);
            }
        }
        Edge.items("nothing came", x, 1, Edge.INTS, 0, 0, 0, 0);
    }

    @Edge.Says("4 STORE: unlike FORMS, a TRAY that does not hold such things")
    static void copyRefusesUnlikeForms() {
        for (int form = 0; form < 3; form++) {
            for (int other = 0; other < 3; other++) {
                StarTracker x = new StarTracker();
                x.sheet(0, form, 3);
                x.sheet(1, other, 3);
                Edge.layAll(x, 0, form, 1, 2, 3);
                Edge.due("copy", x.copy(0, 0, 1, 0, 3), form == other ? 1 : Edge.STORE);
                Edge.due("finding", x.count(8), form == other ? 0 : 4);
                Edge.items("what came", x, 1, other, form == other ? new int[] {1, 2, 3} : new int[3]);
                Edge.due("none", x.copy(0, 0, 1, 0, 0), form == other ? 1 : Edge.STORE);
            }
        }
    }

    @Edge.Says("BAD: the SHEETS; NULL: s, t; STORE; INDEX: below 0, not so many.")
    static void copyTellsBadThenNullThenStoreThenIndex() {
        StarTracker x = numbered(Edge.BYTES, 6, 4);
        for (int v : Edge.outside(0, 3)) {
            Edge.due("s " + v, x.copy(v, 0, 0, 0, 1), Edge.BAD);
            Edge.due("t " + v, x.copy(0, 0, v, 0, 1), Edge.BAD);
            Edge.due("s " + v + ", t LOST, no item", x.copy(v, -1, 3, -1, -1), Edge.BAD);
            Edge.due("t " + v + ", s LOST, no item", x.copy(3, -1, v, -1, -1), Edge.BAD);
        }
        Edge.due("no finding", x.count(8), 0);
        Edge.due("s LOST, no item", x.copy(3, -1, 0, 0, 0), Edge.NULL);
        Edge.due("t LOST, no item", x.copy(0, -1, 3, 0, 0), Edge.NULL);
        Edge.due("both LOST", x.copy(3, 0, 3, 0, 0), Edge.NULL);
        Edge.due("t LOST", x.copy(2, 0, 3, 0, 0), Edge.NULL);
        Edge.due("finding", x.count(8), 1);
        Edge.due("unlike, no item", x.copy(0, -1, 2, 0, 1), Edge.STORE);
        Edge.due("unlike, not so many", x.copy(2, 0, 0, 0, 99), Edge.STORE);
        Edge.due("finding", x.count(8), 4);
        Edge.due("not so many", x.copy(0, 0, 1, 0, 5), Edge.INDEX);
        Edge.due("finding", x.count(8), 2);
        Edge.items("nothing changed", x, 0, Edge.BYTES, 1, 2, 3, 4, 5, 6);
        Edge.items("nothing changed", x, 1, Edge.BYTES, 0, 0, 0, 0);
    }

    // ---- promise 29

    @Edge.Says("as many as there are items, and SPOTS: how many.")
    static void writeAsManyAsItemsAndSpots() {
        for (int form = 0; form < 3; form++) {
            for (int spots = 0; spots <= 8; spots++) {
                for (int n : new int[] {0, 1, 2, 3, 7, 8, 9, 20}) {
                    StarTracker x = Edge.sky();
                    x.see(spots, 0, 1, 0, 0, 0);
                    x.sheet(3, form, n);
                    for (int i = 0; i < n; i++) x.lay(3, form, i, 55);
                    int come = Math.min(n, spots);
                    Edge.due(spots + " spots, " + n + " items", x.write(3), come);
                    for (int i = 0; i < n; i++) Edge.due("item " + i, x.get(3, form, i), i >= come ? 55 : spots < 3 ? Edge.NONE : i);
                    Edge.due("no finding", x.count(8), 0);
                }
            }
        }
        StarTracker x = Edge.sky();
        x.see(8, 0, 1, 0, 0, 0);
        x.sheet(0, Edge.BYTES, 60);
        Edge.due("60 items", x.write(0), 8);
        Edge.items("60 items", x, 0, Edge.BYTES, 0, 1, 2, 3, 4, 5, 6, 7, 0, 0);
    }

    @Edge.Says("STARS by which SPOTS are CONFIRMED (NONE) come to a SHEET from item 0 on")
    static void writeOfSpotsThatAreNotConfirmed() {
        for (int form = 0; form < 3; form++) {
            StarTracker x = Edge.sky();
            x.see(5, 0, 0, 0, 0, 0);
            x.add(1, -77, -77, -77);
            x.add(1, 81, 12, -46);
            x.set(Edge.TOLERANCE, 0);
            x.sheet(1, form, 8);
            Edge.due("write", x.write(1), 7);
            Edge.items("NONE, and a star behind it", x, 1, form, 0, 1, 2, 3, 4, -1, 7, 0);
        }
    }

    @Edge.Says("how many. BAD; NULL.")
    static void writeRefuses() {
        StarTracker x = Edge.sky();
        x.see(3, 0, 0, 0, 0, 0);
        x.sheet(0, Edge.INTS, 3);
        for (int v : Edge.outside(0, 3)) Edge.due("sheet " + v, x.write(v), Edge.BAD);
        Edge.due("no finding", x.count(8), 0);
        for (int s = 1; s < 4; s++) Edge.due("LOST", x.write(s), Edge.NULL);
        Edge.due("finding", x.count(8), 1);
        Edge.items("nothing came", x, 0, Edge.INTS, 0, 0, 0);
        Edge.due("no spots, LOST", new StarTracker().write(0), Edge.NULL);
    }

    // ---- promise 30

    @Edge.Says("0 STARS, 1 SPOTS, 2 pairs that are TAKEN, 3 SPOTS that are CONFIRMED, 4 all VOTES, 5 TOLERANCE, 6 things in all TRAYS, 7 WRONG ones")
    static void countsFromNothingToFull() {
        StarTracker x = new StarTracker();
        int[] none = {0, 0, 0, 0, 0, 200, 0, 0, 0};
        for (int w = 0; w < 9; w++) Edge.due("count " + w + " of nothing", x.count(w), none[w]);
        for (int i = 0; i < 12; i++) x.add(0, 1 + i % 3, i / 3 % 2, i / 6);
        for (int p = 0; p < 8; p++) x.add(1, 1 + p % 3, p / 3 % 2, p / 6);
        x.set(Edge.BUCKET, 9999);
        x.set(Edge.TOLERANCE, 9999);
        for (int t = 0; t < 4; t++) for (int n = 0; n < 8; n++) x.put(t, t == 1 ? 1 : 0, n);
        int[] full = {12, 8, 8, 0, 220 * 56 * 18, 9999, 32, 8, 0};
        for (int w = 0; w < 9; w++) Edge.due("count " + w + " of all", x.count(w), full[w]);
        for (int v : Edge.outside(0, 8)) Edge.due("what " + v, x.count(v), Edge.BAD);
    }

    @Edge.Says("8 the number of the latest FINDING (0 before any). BAD.")
    static void count8IsTheLatestFinding() {
        StarTracker x = Edge.with(Edge.star(1, 1, 1), Edge.spot(1, 1, 1));
        Edge.due("before any", x.count(8), 0);
        x.sheet(0, 0, -1);
        Edge.due("SIZE", x.count(8), 5);
        x.put(0, 1, 0);
        Edge.due("STORE", x.count(8), 4);
        x.sheet(0, 0, 1);
        x.lay(0, 1, 0, 0);
        Edge.due("CAST", x.count(8), 3);
        x.lay(0, 0, 1, 0);
        Edge.due("INDEX", x.count(8), 2);
        x.lay(1, 0, 1, 0);
        Edge.due("NULL", x.count(8), 1);
        x.lay(0, 0, 1, 0);
        Edge.due("INDEX again", x.count(8), 2);
    }

    @Edge.Says("8 the number of the latest FINDING (0 before any). BAD.")
    static void count8StaysByAllElse() {
        StarTracker x = Edge.with(Edge.star(1, 1, 1), Edge.spot(1, 1, 1));
        x.sheet(0, 0, -1);
        x.add(0, 0, 0, 0);
        x.back(2);
        x.take(0);
        x.put(0, 0, 5);
        for (int n = 0; n < 9; n++) x.put(0, 0, 0);
        x.count(9);
        x.sheet(0, 0, 61);
        x.place(0, 0);
        x.thing(1, 0, 0);
        x.share(1, 0, 0);
        x.at(0, 9, 0);
        x.sheet(0, 0, 3);
        x.lay(0, 0, 0, 5);
        x.get(0, 0, 0);
        x.copy(0, 0, 0, 1, 1);
        x.write(0);
        x.read(0, 0);
        x.lose(0);
        x.digest();
        Edge.due("SIZE still", x.count(8), 5);
    }

    // ---- promise 31

    private static BigInteger fold(BigInteger h, long... all) {
        BigInteger to = h;
        for (long v : all) to = to.multiply(BigInteger.valueOf(31)).add(BigInteger.valueOf(v));
        return to;
    }
    private static BigInteger emptyTrays(BigInteger h) {
        BigInteger to = h;
        for (int n = 0; n < 4 * 4 * 5; n++) to = fold(to, Edge.LEAST_INT);
        return to;
    }

    @Edge.Says("h is 17; h becomes 31 h and each of: count() 0 to 7; looks() 0 to 3")
    static void digestOfNothing() {
        BigInteger h = fold(BigInteger.valueOf(17), 0, 0, 0, 0, 0, 200, 0, 0, 0, 0, 0, 0);
        h = fold(h, 0, 0, 0, 0, -1, -1);
        Edge.due("digest", new StarTracker().digest(), emptyTrays(h).longValue());
    }

    @Edge.Says("key(0, 0, 1, it, 0 to 2) (BAD, if they are not unlike)")
    static void digestOfOneAndTwoAndThreeStars() {
        BigInteger h = fold(BigInteger.valueOf(17), 1, 0, 0, 0, 0, 200, 0, 0, 0, 0, 0, 0);
        h = fold(h, Edge.LEAST_INT, Edge.LEAST_INT, Edge.LEAST_INT, -2, -2, -2);
        h = fold(h, 0, 0, 0, 0, -1, -1);
        StarTracker x = Edge.with(Edge.star(1, 1, 1));
        Edge.due("one star", x.digest(), emptyTrays(h).longValue());
        h = fold(BigInteger.valueOf(17), 2, 0, 0, 0, 0, 200, 0, 0, 0, 0, 0, 0);
        for (int i = 0; i < 2; i++) h = fold(h, Edge.LEAST_INT, Edge.LEAST_INT, Edge.LEAST_INT, -2, -2, -2);
        h = fold(h, 0, 0, 0, 0, -1, -1);
        x.add(0, 31, 1, 1);
        Edge.due("two stars", x.digest(), emptyTrays(h).longValue());
        h = fold(BigInteger.valueOf(17), 3, 0, 0, 0, 0, 200, 0, 0, 1, 0, 0, 0);
        for (int i = 0; i < 2; i++) h = fold(h, Edge.LEAST_INT, Edge.LEAST_INT, Edge.LEAST_INT, -2, -2, -2);
        h = fold(h, Edge.LEAST_INT, Edge.LEAST_INT, Edge.LEAST_INT, 2, 4, 6);
        h = fold(h, 0, 0, 0, 0, -1, -1);
        x.add(0, 1, 41, 1);
        Edge.due("three stars, sides 900, 1600, 2500", x.digest(), emptyTrays(h).longValue());
    }

    @Edge.Says("of SPOTS taken() 0, 1, confirmed() 0, 1, and of STARS votes(the SPOT, it)")
    static void digestOfSpots() {
        BigInteger h = fold(BigInteger.valueOf(17), 0, 2, 0, 0, 0, 200, 0, 0, 0, 0, 0, 0);
        h = fold(h, -1, -1, -1, -1, -1, -1, -1, -1);
        h = fold(h, 0, 0, 0, 0, 0, 0);
        Edge.due("two spots", Edge.with(Edge.spot(1, 1, 1), Edge.spot(2, 2, 2)).digest(), emptyTrays(h).longValue());
        // Three stars by sides 900, 1600, 2500, seen as they are but for the last, which is 1 off.
        StarTracker x = Edge.with(Edge.star(1, 1, 1), Edge.star(31, 1, 1), Edge.star(1, 41, 1),
            Edge.spot(1, 1, 1), Edge.spot(31, 1, 1), Edge.spot(1, 42, 1));
        h = fold(BigInteger.valueOf(17), 3, 3, 3, 3, 3, 200, 0, 0, 1, 1, 1, 1);
        h = fold(h, 0, 0, 0, 0, 1, 0, 0);
        h = fold(h, 1, 1, 1, 0, 0, 1, 0);
        h = fold(h, 2, 2, 2, 1, 0, 0, 1);
        h = fold(h, 1, 1, 1, -2, -2, -2, 31, 1, 1, -2, -2, -2, 1, 41, 1, 2, 4, 6);
        // Sides 1681 and 2581 differ by 81 each: 100 is better; without any spot there is no triangle.
        h = fold(h, 1, 0, 100, 3, 0, 0);
        Edge.due("three spots", x.digest(), emptyTrays(h).longValue());
    }

    @Edge.Says("of SPOTS taken() 0, 1, confirmed() 0, 1, and of STARS votes(the SPOT, it)")
    static void digestOfSpotsInAnotherOrder() {
        StarTracker x = Edge.with(Edge.star(1, 1, 1), Edge.star(31, 1, 1), Edge.star(1, 41, 1),
            Edge.spot(1, 41, 1), Edge.spot(1, 1, 1), Edge.spot(31, 1, 1));
        BigInteger h = fold(BigInteger.valueOf(17), 3, 3, 3, 3, 3, 200, 0, 0, 1, 1, 1, 1);
        h = fold(h, 2, 0, 2, 0, 0, 0, 1);
        h = fold(h, 0, 1, 0, 0, 1, 0, 0);
        h = fold(h, 1, 2, 1, 0, 0, 1, 0);
        h = fold(h, 1, 1, 1, -2, -2, -2, 31, 1, 1, -2, -2, -2, 1, 41, 1, 2, 4, 6);
        h = fold(h, 1, 0, 0, 3, 0, 0);
        Edge.due("digest", x.digest(), emptyTrays(h).longValue());
    }

    @Edge.Says("turn(), wrong(), better() 0, 1, spare() 0, 1")
    static void digestOfWrongOnesAndOfASpare() {
        // Sides 100, 2600, 2900; the first two taken are in line, but by 300 the last one is taken first.
        StarTracker x = Edge.with(Edge.star(10, 0, 0), Edge.star(20, 0, 0), Edge.star(0, 50, 0));
        x.see(3, 0, 0, 0, 0, 0);
        BigInteger h = fold(BigInteger.valueOf(17), 3, 3, 3, 0, 3, 200, 0, 3, 1, 1, 1, 1);
        h = fold(h, 0, 0, -1, -1, 1, 0, 0);
        h = fold(h, 1, 1, -1, -1, 0, 1, 0);
        h = fold(h, 2, 2, -1, -1, 0, 0, 1);
        for (int i = 0; i < 2; i++) h = fold(h, Edge.LEAST_INT, Edge.LEAST_INT, Edge.LEAST_INT, -2, -2, -2);
        h = fold(h, Edge.LEAST_INT, Edge.LEAST_INT, Edge.LEAST_INT, 0, 6, 7);
        h = fold(h, 0, 7, 300, 3, 0, 0);
        Edge.due("wrong ones", x.digest(), emptyTrays(h).longValue());
        // Spot 1 is odd.
        x = Edge.with(Edge.star(1, 1, 1), Edge.star(31, 1, 1), Edge.star(1, 41, 1),
            Edge.spot(1, 1, 1), Edge.spot(-90, -90, -90), Edge.spot(31, 1, 1), Edge.spot(1, 41, 1));
        h = fold(BigInteger.valueOf(17), 3, 4, 3, 3, 3, 200, 0, 0, 1, 4, 1, 1);
        h = fold(h, 0, 0, 0, 0, 1, 0, 0);
        h = fold(h, -1, -1, -1, -1, 0, 0, 0);
        h = fold(h, 1, 1, 1, 0, 0, 1, 0);
        h = fold(h, 2, 2, 2, 0, 0, 0, 1);
        h = fold(h, 1, 1, 1, -2, -2, -2, 31, 1, 1, -2, -2, -2, 1, 41, 1, 2, 4, 6);
        h = fold(h, 1, 0, 0, 3, 1, 3);
        Edge.due("a spare", x.digest(), emptyTrays(h).longValue());
    }

    private static StarTracker asked(boolean ahead, Edge.Call change) {
        StarTracker x = Edge.sky();
        x.see(7, 2, 1, 0, 8, 1);
        x.set(Edge.TOLERANCE, 700);
        x.sheet(0, Edge.BYTES, 3);
        Edge.layAll(x, 0, Edge.BYTES, -20, 30, -40);
        for (int n = 0; ahead && n < 2; n++) x.digest();
        change.on(x);
        return x;
    }

    @Edge.Says("h becomes 31 h and each of: count() 0 to 7")
    static void whatIsAnsweredIsOfWhatIsThereNow() {
        Edge.Call[] changes = {x -> x.add(0, 20, 30, 40), x -> x.add(1, 20, 30, 40), x -> x.back(0), x -> x.back(1),
            x -> x.read(0, 0), x -> x.read(1, 0), x -> x.see(4, 0, 0, 0, 0, 0), x -> x.see(0, 0, 0, 0, 0, 0), x -> x.see(7, 2, 1, 0, 9, 3),
            x -> x.set(0, 9999), x -> x.set(0, 1), x -> x.set(1, 0), x -> x.set(1, 9999), x -> x.set(2, 99), x -> x.set(3, 0)};
        for (int n = 0; n < changes.length; n++) {
            StarTracker x = asked(true, changes[n]), y = asked(false, changes[n]);
            Edge.due("change " + n + ", looks", x.looks(2), y.looks(2));
            Edge.due("change " + n + ", better", x.better(0), y.better(0));
            Edge.due("change " + n + ", better", x.better(1), y.better(1));
            Edge.due("change " + n + ", spare", x.spare(0), y.spare(0));
            Edge.due("change " + n + ", spare", x.spare(1), y.spare(1));
            Edge.due("change " + n + ", digest", x.digest(), y.digest());
            Edge.holds("change " + n + " changes the digest", x.digest() != asked(true, z -> 0).digest());
        }
    }

    @Edge.Says("of TRAYS and 0 to 3 thing(the TRAY, it, 0 to 3), share(the TRAY, 0, it); as longs that wrap.")
    static void digestOfTraysHasFourThingsOfEach() {
        StarTracker x = Edge.with(Edge.star(3, 4, 0), Edge.spot(1, 2, 2));
        x.put(0, 0, 0);
        x.put(2, 1, 0);
        x.put(2, 0, 0);
        for (int n = 0; n < 8; n++) x.put(3, 0, 0);
        BigInteger h = fold(BigInteger.valueOf(17), 1, 1, 0, 0, 0, 200, 11, 0, 0, 0, 0, 0);
        h = fold(h, -1, -1, -1, -1, 0);
        h = fold(h, Edge.LEAST_INT, Edge.LEAST_INT, Edge.LEAST_INT, -2, -2, -2);
        h = fold(h, 0, 0, 0, 0, 0, 0);
        int one = Float.floatToIntBits(1f);
        h = fold(fold(h, 0, 3, 4, 0, one), none(3 * 5));
        h = fold(h, none(4 * 5));
        h = fold(fold(h, 1, 1, 2, 2, one, 0, 3, 4, 0, Float.floatToIntBits(11f / 9f)), none(2 * 5));
        for (int n = 0; n < 4; n++) h = fold(h, 0, 3, 4, 0, one);
        Edge.due("digest", x.digest(), h.longValue());
        Edge.holds("it has wrapped", h.abs().bitLength() > 64);
        for (int n = 8; n > 4; n--) x.take(3);
        long four = x.digest();
        x.take(3);
        Edge.holds("the fourth thing is in it", x.digest() != four);
    }
    private static long[] none(int n) {
        long[] all = new long[n];
        java.util.Arrays.fill(all, Edge.LEAST_INT);
        return all;
    }

    @Edge.Says("h is 17; h becomes 31 h and each of")
    static void digestChangesNothing() {
        StarTracker x = Edge.sky(), y = Edge.sky();
        x.see(6, 1, 1, 1, 4, 2);
        y.see(6, 1, 1, 1, 4, 2);
        long h = x.digest();
        for (int n = 0; n < 5; n++) Edge.due("again", x.digest(), h);
        for (int p = 0; p < 6; p++) {
            Edge.due("taken", x.taken(p, 0), y.taken(p, 0));
            Edge.due("confirmed", x.confirmed(p, 1), y.confirmed(p, 1));
        }
        Edge.due("TOLERANCE", x.count(5), 200);
        Edge.due("finding", x.count(8), 0);
    }
}
