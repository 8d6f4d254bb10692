/** The edges of promises 1 to 7: a new object, stars, spots, reading, seeing, settings. */
public final class StarsEdgeTest {
    private static final int[] MOST = {12, 8};

    public static void main(String[] args) throws Exception {
        Edge.run(StarsEdgeTest.class);
    }

    // ---- promise 1

    @Edge.Says("No STARS, no SPOTS, all TRAYS empty; all SHEETS are LOST.")
    static void newHasNoStarsAndNoSpots() {
        for (int kind = 0; kind < 2; kind++) {
            StarTracker x = new StarTracker();
            Edge.due("count", x.count(kind), 0);
            Edge.due("at", x.at(kind, 0, 0), Edge.LEAST_INT);
            Edge.due("side", x.side(kind, 0, 0), Edge.BAD);
            Edge.due("looks", x.looks(kind), 0);
            Edge.due("back", x.back(kind), Edge.NOT);
        }
    }

    @Edge.Says("all TRAYS empty")
    static void newHasEmptyTrays() {
        StarTracker x = new StarTracker();
        Edge.due("things in all", x.count(6), 0);
        for (int t = 0; t < 4; t++) {
            Edge.due("thing", x.thing(t, 0, 0), Edge.LEAST_INT);
            Edge.due("share", x.share(t, 0, 0), Edge.LEAST_INT);
            Edge.due("take", x.take(t), Edge.NOT);
        }
    }

    @Edge.Says("all SHEETS are LOST.")
    static void newHasLostSheets() {
        for (int s = 0; s < 4; s++) {
            StarTracker x = new StarTracker();
            Edge.due("lose", x.lose(s), Edge.NULL);
            Edge.due("write", x.write(s), Edge.NULL);
            Edge.due("read", x.read(0, s), Edge.NULL);
            for (int form = 0; form < 3; form++) Edge.due("lay", x.lay(s, form, 0, 0), Edge.NULL);
        }
    }

    @Edge.Says("`StarTracker()`: No STARS, no SPOTS")
    static void newOnesAreApart() {
        StarTracker x = Edge.sky(), y = new StarTracker();
        x.see(3, 0, 0, 0, 0, 0);
        x.put(0, 0, 0);
        x.sheet(0, 0, 5);
        x.set(Edge.TOLERANCE, 7);
        x.sheet(1, 0, -1);
        for (int w = 0; w < 9; w++) Edge.due("count " + w, y.count(w), w == 5 ? 200 : 0);
        Edge.due("sheet 0", y.lose(0), Edge.NULL);
    }

    @Edge.Says("An object is used for at most 512 calls after it has been made; what later calls answer is free.")
    static void theLastOf512CallsIsAnswered() {
        StarTracker x = new StarTracker();
        for (int n = 0; n < 127; n++) {
            Edge.due("add", x.add(0, 1, 1, 1), 1);
            Edge.due("put", x.put(2, 0, 0), 1);
            Edge.due("take", x.take(2), 0);
            Edge.due("back", x.back(0), 0);
        }
        Edge.due("call 509", x.add(0, 1, 2, 3), 1);
        Edge.due("call 510", x.add(1, 1, 2, 3), 1);
        long h = Edge.with(Edge.star(1, 2, 3), Edge.spot(1, 2, 3)).digest();
        Edge.due("call 511", x.digest(), h);
        Edge.due("call 512", x.digest(), h);
    }

    // ---- promise 2

    @Edge.Says("STARS, 12 at most, and SPOTS, 8 at most")
    static void addTakesTwelveStarsAndEightSpots() {
        for (int kind = 0; kind < 2; kind++) {
            StarTracker x = new StarTracker();
            for (int n = 1; n <= MOST[kind]; n++) {
                Edge.due("add " + n, x.add(kind, n, -n, n), n);
                Edge.due("count", x.count(kind), n);
            }
            Edge.due("one more", x.add(kind, 99, 99, 99), Edge.FULL);
            Edge.due("still", x.count(kind), MOST[kind]);
            for (int n = 1; n <= MOST[kind]; n++) Edge.isAt("stays", x, kind, n - 1, n, -n, n);
            Edge.due("room for the other kind", x.add(1 - kind, 1, 1, 1), 1);
            Edge.due("one less", x.back(kind), MOST[kind] - 1);
            Edge.due("room again", x.add(kind, 7, 8, 9), MOST[kind]);
            Edge.isAt("the new last", x, kind, MOST[kind] - 1, 7, 8, 9);
        }
    }

    @Edge.Says("x, y, z (-100 to 100, not all 0).")
    static void addTakesEachOfXyzFromMinus100To100() {
        for (int kind = 0; kind < 2; kind++) {
            for (int w = 0; w < 3; w++) {
                for (int v : new int[] {-100, -99, 99, 100}) {
                    int[] d = {1, 2, 3};
                    d[w] = v;
                    StarTracker x = new StarTracker();
                    Edge.due("part " + w + " " + v, x.add(kind, d[0], d[1], d[2]), 1);
                    Edge.isAt("part " + w, x, kind, 0, d);
                }
                for (int v : Edge.outside(-100, 100)) {
                    int[] d = {1, 2, 3};
                    d[w] = v;
                    StarTracker x = new StarTracker();
                    Edge.due("part " + w + " " + v, x.add(kind, d[0], d[1], d[2]), Edge.BAD);
                    Edge.due("none came", x.count(kind), 0);
                }
            }
        }
    }

    @Edge.Says("x, y, z (-100 to 100, not all 0).")
    static void addTakesAllAtTheirGreatestAndLeast() {
        for (int kind = 0; kind < 2; kind++) {
            StarTracker x = new StarTracker();
            Edge.due("greatest", x.add(kind, 100, 100, 100), 1);
            Edge.due("least", x.add(kind, -100, -100, -100), 2);
            Edge.isAt("greatest", x, kind, 0, 100, 100, 100);
            Edge.isAt("least", x, kind, 1, -100, -100, -100);
            Edge.due("all too great", x.add(kind, 101, 101, 101), Edge.BAD);
            Edge.due("all too small", x.add(kind, -101, -101, -101), Edge.BAD);
        }
    }

    @Edge.Says("not all 0")
    static void addRefusesAllZeroAlone() {
        for (int kind = 0; kind < 2; kind++) {
            StarTracker x = new StarTracker();
            Edge.due("all 0", x.add(kind, 0, 0, 0), Edge.BAD);
            Edge.due("none came", x.count(kind), 0);
            int n = 0;
            for (int[] d : new int[][] {{1, 0, 0}, {-1, 0, 0}, {0, 1, 0}, {0, -1, 0}, {0, 0, 1}, {0, 0, -1}, {1, -1, 0}}) {
                n++;
                Edge.due("one is not 0", x.add(kind, d[0], d[1], d[2]), n);
                Edge.isAt("one is not 0", x, kind, n - 1, d);
            }
        }
    }

    @Edge.Says("A STAR (kind = 0), a SPOT (1) more: how many. BAD; FULL.")
    static void addRefusesOtherKinds() {
        StarTracker x = new StarTracker();
        for (int v : Edge.outside(0, 1)) Edge.due("kind " + v, x.add(v, 1, 1, 1), Edge.BAD);
        Edge.due("stars", x.count(0), 0);
        Edge.due("spots", x.count(1), 0);
    }

    @Edge.Says("A STAR (kind = 0), a SPOT (1) more: how many. BAD; FULL.")
    static void addTellsBadAheadOfFull() {
        for (int kind = 0; kind < 2; kind++) {
            StarTracker x = new StarTracker();
            for (int n = 0; n < MOST[kind]; n++) x.add(kind, 1, 1, 1);
            Edge.due("FULL", x.add(kind, 1, 1, 1), Edge.FULL);
            Edge.due("all 0", x.add(kind, 0, 0, 0), Edge.BAD);
            Edge.due("x", x.add(kind, 101, 1, 1), Edge.BAD);
            Edge.due("y", x.add(kind, 1, -101, 1), Edge.BAD);
            Edge.due("z", x.add(kind, 1, 1, 101), Edge.BAD);
        }
    }

    // ---- promise 3

    @Edge.Says("The last STAR (kind = 0), SPOT (1) is undone: how many are left. BAD; NOT: there is none.")
    static void backGoesDownToNone() {
        for (int kind = 0; kind < 2; kind++) {
            StarTracker x = new StarTracker();
            for (int n = 1; n <= MOST[kind]; n++) x.add(kind, n, n, n);
            x.add(1 - kind, 5, 6, 7);
            for (int n = MOST[kind] - 1; n >= 0; n--) {
                Edge.due("back", x.back(kind), n);
                Edge.due("count", x.count(kind), n);
                Edge.due("the last is gone", x.at(kind, n, 0), Edge.LEAST_INT);
                if (n > 0) Edge.isAt("the one ahead stays", x, kind, n - 1, n, n, n);
            }
            Edge.due("none", x.back(kind), Edge.NOT);
            Edge.due("none again", x.back(kind), Edge.NOT);
            Edge.due("none", x.count(kind), 0);
            Edge.due("the other kind stays", x.count(1 - kind), 1);
        }
    }

    @Edge.Says("NOT: there is none.")
    static void backOfOneKindIsNotWhileTheOtherIsThere() {
        StarTracker x = Edge.with(Edge.star(1, 2, 3));
        Edge.due("spot", x.back(1), Edge.NOT);
        Edge.isAt("the star stays", x, 0, 0, 1, 2, 3);
        x = Edge.with(Edge.spot(1, 2, 3));
        Edge.due("star", x.back(0), Edge.NOT);
        Edge.isAt("the spot stays", x, 1, 0, 1, 2, 3);
    }

    @Edge.Says("The last STAR (kind = 0), SPOT (1) is undone")
    static void backRefusesOtherKinds() {
        StarTracker x = Edge.with(Edge.star(1, 2, 3), Edge.spot(4, 5, 6));
        for (int v : Edge.outside(0, 1)) Edge.due("kind " + v, x.back(v), Edge.BAD);
        Edge.due("stars", x.count(0), 1);
        Edge.due("spots", x.count(1), 1);
        for (int v : Edge.outside(0, 1)) Edge.due("kind, with none there", new StarTracker().back(v), Edge.BAD);
    }

    // ---- promise 4

    @Edge.Says("x (what = 0), y (1), z (2) of a STAR (kind = 0), a SPOT (1). BAD: the least int.")
    static void atTellsFromTheFirstToTheLast() {
        for (int kind = 0; kind < 2; kind++) {
            StarTracker x = new StarTracker();
            for (int n = 0; n < MOST[kind]; n++) {
                x.add(kind, n - 100, 100 - n, n);
                Edge.due("the next", x.at(kind, n + 1, 0), Edge.LEAST_INT);
            }
            for (int n = 0; n < MOST[kind]; n++) Edge.isAt("each", x, kind, n, n - 100, 100 - n, n);
            for (int v : Edge.outside(0, MOST[kind] - 1)) Edge.due("number " + v, x.at(kind, v, 0), Edge.LEAST_INT);
            Edge.due("the other kind", x.at(1 - kind, 0, 0), Edge.LEAST_INT);
        }
    }

    @Edge.Says("x (what = 0), y (1), z (2) of a STAR (kind = 0), a SPOT (1). BAD: the least int.")
    static void atRefusesOtherKindsAndParts() {
        StarTracker x = Edge.with(Edge.star(1, 2, 3), Edge.spot(4, 5, 6));
        for (int v : Edge.outside(0, 1)) Edge.due("kind " + v, x.at(v, 0, 0), Edge.LEAST_INT);
        for (int v : Edge.outside(0, 2)) {
            Edge.due("what " + v, x.at(0, 0, v), Edge.LEAST_INT);
            Edge.due("what " + v, x.at(1, 0, v), Edge.LEAST_INT);
        }
        Edge.due("no finding", x.count(8), 0);
    }

    // ---- promise 5

    @Edge.Says("its items, three for each, as many as are whole")
    static void readTakesWholeOnesAlone() {
        for (int form = 0; form < 3; form++) {
            for (int n = 0; n <= 7; n++) {
                StarTracker x = new StarTracker();
                x.sheet(0, form, n);
                for (int i = 0; i < n; i++) x.lay(0, form, i, i + 1);
                Edge.due("read of " + n + " items", x.read(0, 0), n / 3);
                Edge.due("stars", x.count(0), n / 3);
                for (int i = 0; i < n / 3; i++) Edge.isAt("star", x, 0, i, 3 * i + 1, 3 * i + 2, 3 * i + 3);
                Edge.due("read of " + n + " items", x.read(1, 0), n / 3);
                Edge.due("spots", x.count(1), n / 3);
            }
        }
    }

    @Edge.Says("STARS, SPOTS from a SHEET: its items, three for each, as many as are whole, as long as each may be: how many.")
    static void readStopsWhereThereIsNoRoom() {
        for (int kind = 0; kind < 2; kind++) {
            int most = MOST[kind];
            for (int whole : new int[] {most - 1, most, most + 1, 20}) {
                StarTracker x = new StarTracker();
                x.sheet(3, Edge.INTS, 3 * whole);
                for (int i = 0; i < 3 * whole; i++) x.lay(3, Edge.INTS, i, i / 3 + 1);
                int come = Math.min(whole, most);
                Edge.due("read of " + whole, x.read(kind, 3), come);
                Edge.due("there are", x.count(kind), come);
                Edge.isAt("the last", x, kind, come - 1, come, come, come);
                Edge.due("none of the other", x.count(1 - kind), 0);
                Edge.due("again", x.read(kind, 3), most - come);
                Edge.due("full", x.count(kind), most);
                Edge.due("none into a full row", x.read(kind, 3), 0);
                Edge.due("full", x.count(kind), most);
                Edge.isAt("the last but one stays", x, kind, most - 2, most - 1, most - 1, most - 1);
            }
        }
    }

    @Edge.Says("as long as each may be")
    static void readStopsAtTheFirstThatMayNotBe() {
        for (int form = 0; form < 3; form++) {
            for (int w = 0; w < 3; w++) {
                for (int v : new int[] {-101, 101, 127, -128}) {
                    StarTracker x = new StarTracker();
                    x.sheet(1, form, 9);
                    Edge.layAll(x, 1, form, -100, 100, -100, 4, 5, 6, 100, -100, 100);
                    x.lay(1, form, 3 + w, v);
                    Edge.due("one ahead of it", x.read(1, 1), 1);
                    Edge.due("spots", x.count(1), 1);
                    Edge.isAt("one ahead of it", x, 1, 0, -100, 100, -100);
                    x.lay(1, form, 3 + w, v < 0 ? -100 : 100);
                    Edge.due("all, as they may be", x.read(1, 1), 3);
                    Edge.isAt("the last", x, 1, 3, 100, -100, 100);
                }
            }
        }
    }

    @Edge.Says("as long as each may be")
    static void readStopsAtAllZero() {
        for (int at = 0; at < 3; at++) {
            StarTracker x = new StarTracker();
            x.sheet(1, Edge.BYTES, 9);
            Edge.layAll(x, 1, Edge.BYTES, 1, 0, 0, 0, 2, 0, 0, 0, 3);
            for (int w = 0; w < 3; w++) x.lay(1, Edge.BYTES, 3 * at + w, 0);
            Edge.due("those ahead of it", x.read(0, 1), at);
            Edge.due("stars", x.count(0), at);
        }
    }

    @Edge.Says("as long as each may be")
    static void readStopsAtNumbersFarOff() {
        int[][] far = {{Edge.SHORTS, 32767}, {Edge.SHORTS, -32768}, {Edge.SHORTS, 256}, {Edge.INTS, Edge.LEAST_INT},
            {Edge.INTS, Edge.GREATEST_INT}, {Edge.INTS, 65536}, {Edge.INTS, 256}};
        for (int[] f : far) {
            for (int w = 0; w < 3; w++) {
                StarTracker x = new StarTracker();
                x.sheet(2, f[0], 6);
                Edge.layAll(x, 2, f[0], 1, 1, 1, 1, 1, 1);
                x.lay(2, f[0], w, f[1]);
                Edge.due("item " + f[1], x.read(0, 2), 0);
                Edge.due("stars", x.count(0), 0);
            }
        }
    }

    @Edge.Says("STARS, SPOTS from a SHEET")
    static void readThatBringsNoneKeepsWhatIsThere() {
        for (int kind = 0; kind < 2; kind++) {
            StarTracker x = new StarTracker();
            x.add(kind, 7, 8, 9);
            x.sheet(0, Edge.SHORTS, 0);
            Edge.due("a sheet of 0 items", x.read(kind, 0), 0);
            Edge.due("one is there", x.count(kind), 1);
            x.sheet(0, Edge.SHORTS, 2);
            Edge.due("a sheet of 2 items", x.read(kind, 0), 0);
            x.sheet(0, Edge.SHORTS, 3);
            Edge.due("a sheet of 0 0 0", x.read(kind, 0), 0);
            Edge.due("one is there", x.count(kind), 1);
            Edge.isAt("as it was", x, kind, 0, 7, 8, 9);
            Edge.due("no finding", x.count(8), 0);
        }
    }

    @Edge.Says("as long as each may be: how many. BAD; NULL.")
    static void readRefuses() {
        StarTracker x = Edge.with(Edge.star(1, 2, 3), Edge.spot(1, 2, 3));
        x.sheet(0, Edge.INTS, 3);
        Edge.layAll(x, 0, Edge.INTS, 1, 1, 1);
        for (int v : Edge.outside(0, 1)) {
            Edge.due("kind " + v, x.read(v, 0), Edge.BAD);
            Edge.due("kind, of a LOST sheet", x.read(v, 1), Edge.BAD);
        }
        for (int v : Edge.outside(0, 3)) Edge.due("sheet " + v, x.read(0, v), Edge.BAD);
        Edge.due("no finding", x.count(8), 0);
        for (int s = 1; s < 4; s++) Edge.due("LOST", x.read(s % 2, s), Edge.NULL);
        Edge.due("finding", x.count(8), 1);
        Edge.due("stars", x.count(0), 1);
        Edge.due("spots", x.count(1), 1);
        Edge.due("sheet 0 is there", x.read(0, 0), 1);
    }

    // ---- promise 6

    @Edge.Says("SPOTS become the first n STARS (0 to 8, no more than there are)")
    static void seeTakesFromNoneToEight() {
        for (int n = 0; n <= 8; n++) {
            StarTracker x = twelve();
            Edge.due("see", x.see(n, 0, 0, 0, 0, 0), n);
            Edge.due("spots", x.count(1), n);
            for (int i = 0; i < n; i++) Edge.isAt("spot", x, 1, i, i + 1, -i, 2 * i);
        }
        for (int n : Edge.outside(0, 8)) {
            StarTracker x = twelve();
            x.add(1, 9, 9, 9);
            Edge.due("see(" + n + ", ..)", x.see(n, 0, 0, 0, 0, 0), Edge.BAD);
            Edge.due("spots", x.count(1), 1);
            Edge.isAt("as it was", x, 1, 0, 9, 9, 9);
        }
    }
    private static StarTracker twelve() {
        StarTracker x = new StarTracker();
        for (int i = 0; i < 12; i++) x.add(0, i + 1, -i, 2 * i);
        return x;
    }

    @Edge.Says("no more than there are")
    static void seeTakesNoMoreThanThereAre() {
        for (int stars = 0; stars <= 8; stars++) {
            StarTracker x = new StarTracker();
            for (int i = 0; i < stars; i++) x.add(0, 1, 2, i);
            x.add(1, 9, 9, 9);
            x.add(1, 8, 8, 8);
            Edge.due("one more", x.see(stars + 1, 0, 0, 0, 0, 0), Edge.BAD);
            Edge.due("spots stay", x.count(1), 2);
            Edge.due("all", x.see(stars, 0, 0, 0, 0, 0), stars);
            Edge.due("all", x.count(1), stars);
        }
        StarTracker x = twelve();
        x.back(0);
        for (int n = 10; n >= 0; n--) {
            Edge.due("back", x.back(0), n);
            Edge.due("as many as are left", x.see(Math.min(n, 8), 0, 0, 0, 0, 0), Math.min(n, 8));
            if (n < 8) Edge.due("one more than are left", x.see(n + 1, 0, 0, 0, 0, 0), Edge.BAD);
        }
    }

    @Edge.Says("SPOTS become the first n STARS")
    static void seePutsAwayTheSpotsThatWere() {
        StarTracker x = twelve();
        x.see(8, 0, 0, 0, 0, 0);
        Edge.due("two", x.see(2, 0, 0, 0, 0, 0), 2);
        Edge.due("two", x.count(1), 2);
        Edge.due("the third is gone", x.at(1, 2, 0), Edge.LEAST_INT);
        Edge.due("none", x.see(0, 0, 0, 0, 0, 0), 0);
        Edge.due("none", x.count(1), 0);
        Edge.due("the stars stay", x.count(0), 12);
        StarTracker none = Edge.with(Edge.spot(1, 1, 1));
        Edge.due("none of no stars", none.see(0, 3, 3, 3, 5, 3), 0);
        Edge.due("none", none.count(1), 0);
    }

    @Edge.Says("SEEN by a, b, c quarters (0 to 3 each), with noise m (0 to 3).")
    static void seeTakesQuartersFromNoneToThree() {
        // Star (1, 2, 3): what it is by 0 to 3 quarters around x, y, z.
        int[][][] due = {
            {{1, 2, 3}, {1, -3, 2}, {1, -2, -3}, {1, 3, -2}},
            {{1, 2, 3}, {3, 2, -1}, {-1, 2, -3}, {-3, 2, 1}},
            {{1, 2, 3}, {-2, 1, 3}, {-1, -2, 3}, {2, -1, 3}}};
        for (int axis = 0; axis < 3; axis++) {
            for (int times = 0; times <= 3; times++) {
                StarTracker x = Edge.with(Edge.star(1, 2, 3));
                Edge.due("see", x.see(1, axis == 0 ? times : 0, axis == 1 ? times : 0, axis == 2 ? times : 0, 0, 0), 1);
                Edge.isAt(times + " around " + axis, x, 1, 0, due[axis][times]);
                Edge.isAt("the star stays", x, 0, 0, 1, 2, 3);
            }
            for (int v : Edge.outside(0, 3)) {
                StarTracker x = Edge.with(Edge.star(1, 2, 3), Edge.spot(9, 9, 9));
                Edge.due("see", x.see(1, axis == 0 ? v : 0, axis == 1 ? v : 0, axis == 2 ? v : 0, 0, 0), Edge.BAD);
                Edge.due("see of none", x.see(0, axis == 0 ? v : 0, axis == 1 ? v : 0, axis == 2 ? v : 0, 0, 0), Edge.BAD);
                Edge.isAt("the spot stays", x, 1, 0, 9, 9, 9);
            }
        }
    }

    @Edge.Says("a times around x (x, y, z become x, -z, y), then b times around y (z, y, -x), then c times around z (-y, x, z)")
    static void seeTurnsAroundXThenYThenZ() {
        for (int a = 0; a <= 3; a++)
            for (int b = 0; b <= 3; b++)
                for (int c = 0; c <= 3; c++) {
                    int[] d = {-7, 50, 100};
                    for (int n = 0; n < a; n++) d = new int[] {d[0], -d[2], d[1]};
                    for (int n = 0; n < b; n++) d = new int[] {d[2], d[1], -d[0]};
                    for (int n = 0; n < c; n++) d = new int[] {-d[1], d[0], d[2]};
                    StarTracker x = Edge.with(Edge.star(9, 8, 7), Edge.star(-7, 50, 100));
                    x.see(2, a, b, c, 0, 0);
                    Edge.isAt("quarters " + a + ", " + b + ", " + c, x, 1, 1, d);
                }
    }

    @Edge.Says("with noise m (0 to 3). How many. BAD.")
    static void seeTakesNoiseFromNoneToThree() {
        for (int m = 0; m <= 3; m++) Edge.due("noise " + m, twelve().see(8, 0, 0, 0, 1, m), 8);
        for (int m : Edge.outside(0, 3)) {
            StarTracker x = Edge.with(Edge.star(1, 2, 3), Edge.spot(9, 9, 9));
            Edge.due("noise " + m, x.see(1, 0, 0, 0, 1, m), Edge.BAD);
            Edge.due("noise " + m + " of none", x.see(0, 0, 0, 0, 1, m), Edge.BAD);
            Edge.isAt("the spot stays", x, 1, 0, 9, 9, 9);
        }
    }

    @Edge.Says("(nothing, if m is 0;")
    static void seeWithoutNoiseMovesNothing() {
        for (int seed : SEEDS) {
            StarTracker x = Edge.with(Edge.star(100, -100, 100), Edge.star(0, 0, 1), Edge.star(1, 0, 0));
            x.see(3, 0, 0, 0, seed, 0);
            Edge.isAt("seed " + seed, x, 1, 0, 100, -100, 100);
            Edge.isAt("seed " + seed, x, 1, 1, 0, 0, 1);
            Edge.isAt("seed " + seed, x, 1, 2, 1, 0, 0);
        }
    }

    private static final int[] SEEDS = {0, 1, 2, 3, 5, -1, -2, Edge.GREATEST_INT, Edge.LEAST_INT, Edge.GREATEST_INT - 1,
        Edge.LEAST_INT + 1, 65535, 65536, -65536, 12345, -12345, 1103515245, 1 << 30};

    /** The SEED that comes next, as a number from 0 to below 2 to the power of 32, by longs that hold it whole. */
    private static long next(long seed) {
        return Math.floorMod(1103515245L * Math.floorMod(seed, 1L << 32) + 12345L, 1L << 32);
    }
    private static int lots(long seed, int n) {
        return (int) (seed / 65536 % n);
    }

    @Edge.Says("then x, y, z, in order, each get LOTS of 2 m and 1, less m, more")
    static void seeMovesByTheSeedThatGoesOn() {
        for (int seed : SEEDS) {
            for (int m = 1; m <= 3; m++) {
                StarTracker x = new StarTracker();
                for (int i = 0; i < 8; i++) x.add(0, 10 + i, -20 - i, 30 + i);
                x.see(8, 0, 0, 0, seed, m);
                long s = seed;
                for (int i = 0; i < 8; i++) {
                    int[] d = {10 + i, -20 - i, 30 + i};
                    for (int w = 0; w < 3; w++) {
                        s = next(s);
                        d[w] += lots(s, 2 * m + 1) - m;
                    }
                    Edge.isAt("seed " + seed + " noise " + m, x, 1, i, d);
                }
            }
        }
    }

    @Edge.Says("SEED becomes 1103515245 SEED and 12345, as ints that wrap; its upper 16 bits as a number from 0 on, modulo n.")
    static void seedWraps() {
        // By hand: 12345 has upper bits 0; 1103527590 16838; 2207042835 (as an int below 0) 33676; 3310558080 50515.
        int[][] due = {{0, -3}, {1, 16838 % 7 - 3}, {2, 33676 % 7 - 3}, {3, 50515 % 7 - 3}};
        for (int[] d : due) {
            StarTracker x = Edge.with(Edge.star(50, 50, 50));
            x.see(1, 0, 0, 0, d[0], 3);
            Edge.due("x by seed " + d[0], x.at(1, 0, 0), 50 + d[1]);
        }
        // -1: 12345 - 1103515245 is -1103502900, that is 3191464396 from 0 on, upper bits 48697.
        StarTracker x = Edge.with(Edge.star(50, 50, 50));
        x.see(1, 0, 0, 0, -1, 2);
        Edge.due("x by seed -1", x.at(1, 0, 0), 50 + 48697 % 5 - 2);
        // The least int is 2 to the power of 31, an odd number times it wraps to itself: 2147495993, upper bits 32768.
        x.see(1, 0, 0, 0, Edge.LEAST_INT, 1);
        Edge.due("x by the least int", x.at(1, 0, 0), 50 + 32768 % 3 - 1);
        // The greatest int: 2147483648 - 1103515245 + 12345 is 1043980748, upper bits 15929.
        x.see(1, 0, 0, 0, Edge.GREATEST_INT, 3);
        Edge.due("x by the greatest int", x.at(1, 0, 0), 50 + 15929 % 7 - 3);
    }

    @Edge.Says("LOTS of n: SEED becomes 1103515245 SEED and 12345")
    static void seeStartsByItsOwnSeed() {
        StarTracker x = Edge.sky(), y = Edge.sky();
        x.see(8, 1, 2, 3, 99, 3);
        x.see(5, 0, 1, 0, 7, 2);
        y.see(5, 0, 1, 0, 7, 2);
        for (int i = 0; i < 5; i++) Edge.isAt("seed 7", x, 1, i, y.at(1, i, 0), y.at(1, i, 1), y.at(1, i, 2));
    }

    @Edge.Says("each get LOTS of 2 m and 1, less m, more")
    static void noiseIsFromMinusMToM() {
        for (int m = 1; m <= 3; m++) {
            boolean[] met = new boolean[2 * m + 1];
            for (int seed = 0; seed < 60; seed++) {
                StarTracker x = Edge.with(Edge.star(50, 50, 50));
                x.see(1, 0, 0, 0, seed * 1000003, m);
                for (int w = 0; w < 3; w++) {
                    int by = x.at(1, 0, w) - 50;
                    Edge.holds("moved by " + by + " of " + m, by >= -m && by <= m);
                    if (by >= -m && by <= m) met[by + m] = true;
                }
            }
            for (int by = -m; by <= m; by++) Edge.holds(by + " of " + m + " is met", met[by + m]);
        }
    }

    @Edge.Says("kept within -100 to 100;")
    static void noiseKeepsWithin100() {
        int above = 0, below = 0;
        for (int seed = 0; seed < 40; seed++) {
            for (int m = 1; m <= 3; m++) {
                for (int[] d : new int[][] {{100, 99, 98}, {-100, -99, -98}, {-98, 100, -100}}) {
                    StarTracker x = Edge.with(Edge.star(d[0], d[1], d[2]));
                    x.see(1, 0, 0, 0, seed, m);
                    long s = seed;
                    for (int w = 0; w < 3; w++) {
                        s = next(s);
                        int v = d[w] + lots(s, 2 * m + 1) - m;
                        if (v > 100) above++;
                        if (v < -100) below++;
                        Edge.due(d[w] + " by seed " + seed + " noise " + m, x.at(1, 0, w), v > 100 ? 100 : v < -100 ? -100 : v);
                    }
                }
            }
        }
        Edge.holds("some would be above 100, some below -100", above > 20 && below > 20);
    }

    @Edge.Says("if all are 0 then, z is 1)")
    static void noiseThatMakesAllZeroLeavesZAtOne() {
        int met = 0, others = 0;
        for (int[] d : new int[][] {{1, 0, 0}, {0, 1, 0}, {0, 0, 1}, {-1, 0, 0}, {0, -1, 0}, {0, 0, -1}, {1, 1, 1}, {-1, 1, 0}, {2, -2, 3}}) {
            for (int seed = 0; seed < 200; seed++) {
                for (int m = 1; m <= 3; m++) {
                    long s = seed;
                    int[] to = d.clone();
                    for (int w = 0; w < 3; w++) {
                        s = next(s);
                        to[w] += lots(s, 2 * m + 1) - m;
                    }
                    boolean all = to[0] == 0 && to[1] == 0 && to[2] == 0;
                    boolean nearly = to[0] == 0 && to[1] == 0 || to[1] == 0 && to[2] == 0 || to[0] == 0 && to[2] == 0;
                    if (!all && !nearly) continue;
                    if (all) met++;
                    else others++;
                    StarTracker x = Edge.with(Edge.star(d[0], d[1], d[2]), Edge.star(60, 60, 60));
                    x.see(2, 0, 0, 0, seed, m);
                    Edge.isAt("seed " + seed + " noise " + m, x, 1, 0, to[0], to[1], all ? 1 : to[2]);
                    // The one behind it goes on by the same SEED: no LOTS are drawn for the 1.
                    s = next(s);
                    Edge.due("the next star", x.at(1, 1, 0), 60 + lots(s, 2 * m + 1) - m);
                }
            }
        }
        Edge.holds("some become all 0, some nearly", met > 5 && others > 20);
    }

    @Edge.Says("if all are 0 then, z is 1)")
    static void noiseThatMakesALaterStarAllZero() {
        int met = 0;
        for (int seed = 0; seed < 400; seed++) {
            StarTracker x = new StarTracker();
            for (int i = 0; i < 8; i++) x.add(0, i % 2, 1 - i % 2, i % 3 - 1);
            x.see(8, 0, 0, 0, seed, 1);
            long s = seed;
            for (int i = 0; i < 8; i++) {
                int[] d = {i % 2, 1 - i % 2, i % 3 - 1};
                for (int w = 0; w < 3; w++) {
                    s = next(s);
                    d[w] += lots(s, 3) - 1;
                }
                if (d[0] == 0 && d[1] == 0 && d[2] == 0) {
                    d[2] = 1;
                    met++;
                }
                Edge.isAt("seed " + seed, x, 1, i, d);
            }
        }
        Edge.holds("some become all 0", met > 20);
    }

    // ---- promise 7

    private static final int[] FIRST = {400, 200, 1, 20}, LOWEST = {1, 0, 1, 0}, HIGHEST = {9999, 9999, 99, 300};

    private static void settingHasItsBounds(int what) {
        StarTracker x = new StarTracker();
        for (int v : Edge.outside(LOWEST[what], HIGHEST[what])) Edge.due("set to " + v, x.set(what, v), Edge.BAD);
        Edge.due("at first, still", x.set(what, LOWEST[what]), FIRST[what]);
        Edge.due("the least", x.set(what, LOWEST[what] + 1), LOWEST[what]);
        Edge.due("the next", x.set(what, HIGHEST[what] - 1), LOWEST[what] + 1);
        Edge.due("the last but one", x.set(what, HIGHEST[what]), HIGHEST[what] - 1);
        Edge.due("the greatest", x.set(what, HIGHEST[what]), HIGHEST[what]);
        for (int v : Edge.outside(LOWEST[what], HIGHEST[what])) Edge.due("set to " + v, x.set(what, v), Edge.BAD);
        Edge.due("the greatest, still", x.set(what, FIRST[what]), HIGHEST[what]);
        for (int other = 0; other < 4; other++) Edge.due("no other was set", x.set(other, FIRST[other]), FIRST[other]);
    }

    @Edge.Says("BUCKET (1 to 9999; 400 at first)")
    static void setBucketHasItsBounds() {
        settingHasItsBounds(Edge.BUCKET);
    }

    @Edge.Says("TOLERANCE (0 to 9999; 200 at first)")
    static void setToleranceHasItsBounds() {
        settingHasItsBounds(Edge.TOLERANCE);
        StarTracker x = new StarTracker();
        Edge.due("at first", x.count(5), 200);
        x.set(Edge.TOLERANCE, 0);
        Edge.due("least", x.count(5), 0);
        x.set(Edge.TOLERANCE, 9999);
        Edge.due("greatest", x.count(5), 9999);
        x.set(Edge.TOLERANCE, 10000);
        Edge.due("refused", x.count(5), 9999);
    }

    @Edge.Says("LEAST (1 to 99; 1 at first)")
    static void setLeastHasItsBounds() {
        settingHasItsBounds(Edge.LEAST);
    }

    @Edge.Says("NEAR (0 to 300; 20 at first)")
    static void setNearHasItsBounds() {
        settingHasItsBounds(Edge.NEAR);
    }

    @Edge.Says("BUCKET (what = 0), TOLERANCE (1), LEAST (2), NEAR (3): what it was. BAD.")
    static void setRefusesOtherSettings() {
        StarTracker x = new StarTracker();
        for (int v : Edge.outside(0, 3)) Edge.due("what " + v, x.set(v, 50), Edge.BAD);
        for (int w = 0; w < 4; w++) Edge.due("as at first", x.set(w, FIRST[w]), FIRST[w]);
    }
}
