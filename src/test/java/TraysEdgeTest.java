/** The edges of promises 19 to 23: trays, their things, what two things share. */
public final class TraysEdgeTest {
    public static void main(String[] args) throws Exception {
        Edge.run(TraysEdgeTest.class);
    }

    private static StarTracker both() {
        return Edge.with(Edge.star(1, 2, 3), Edge.spot(4, 5, 6));
    }

    /** Holds as at first: which kind of thing a tray takes. */
    private static int kindFor(int tray) {
        return tray == 1 ? Edge.SPOT : Edge.STAR;
    }

    private static void isThing(StarTracker x, int tray, int i, int... want) {
        for (int w = 0; w < 4; w++) Edge.due("thing(" + tray + ", " + i + ", " + w + ")", x.thing(tray, i, w), want[w]);
    }

    // ---- promise 19

    @Edge.Says("TRAYS 0 to 3 hold up to 8 things (0 on)")
    static void putTakesEightThings() {
        for (int t = 0; t < 4; t++) {
            StarTracker x = both();
            int kind = kindFor(t);
            for (int n = 1; n <= 8; n++) {
                Edge.due("put " + n, x.put(t, kind, 0), n);
                Edge.due("in all", x.count(6), n);
            }
            Edge.due("one more", x.put(t, kind, 0), Edge.FULL);
            Edge.due("still", x.count(6), 8);
            isThing(x, t, 7, kind, 1 + 3 * kind, 2 + 3 * kind, 3 + 3 * kind);
            Edge.due("no finding", x.count(8), 0);
            Edge.due("one out", x.take(t), 7);
            Edge.due("room again", x.put(t, kind, 0), 8);
        }
    }

    @Edge.Says("TRAYS 0 to 3 hold up to 8 things (0 on)")
    static void allTraysFull() {
        StarTracker x = both();
        for (int t = 0; t < 4; t++) for (int n = 1; n <= 8; n++) Edge.due("put", x.put(t, kindFor(t), 0), n);
        Edge.due("in all", x.count(6), 32);
        for (int t = 0; t < 4; t++) Edge.due("FULL", x.put(t, kindFor(t), 0), Edge.FULL);
    }

    @Edge.Says("0 STARS alone, 1 SPOTS alone, 2 and 3 both, at first.")
    static void putTakesWhatATrayHolds() {
        int[][] due = {{1, Edge.STORE}, {Edge.STORE, 1}, {1, 1}, {1, 1}};
        for (int t = 0; t < 4; t++) {
            for (int kind = 0; kind < 2; kind++) {
                StarTracker x = both();
                Edge.due("tray " + t + " kind " + kind, x.put(t, kind, 0), due[t][kind]);
                Edge.due("things", x.count(6), due[t][kind] > 0 ? 1 : 0);
                Edge.due("finding", x.count(8), due[t][kind] > 0 ? 0 : 4);
            }
        }
    }

    @Edge.Says("A STAR (kind = 0), a SPOT (1) is put into a TRAY: how many are there. BAD; FULL; STORE.")
    static void putRefusesWhatIsNotThere() {
        StarTracker x = both();
        for (int v : Edge.outside(0, 3)) Edge.due("tray " + v, x.put(v, 0, 0), Edge.BAD);
        for (int v : Edge.outside(0, 1)) Edge.due("kind " + v, x.put(2, v, 0), Edge.BAD);
        for (int v : Edge.outside(0, 0)) {
            Edge.due("star " + v, x.put(2, 0, v), Edge.BAD);
            Edge.due("spot " + v, x.put(2, 1, v), Edge.BAD);
        }
        Edge.due("no stars", Edge.with(Edge.spot(1, 1, 1)).put(2, 0, 0), Edge.BAD);
        Edge.due("no spots", Edge.with(Edge.star(1, 1, 1)).put(2, 1, 0), Edge.BAD);
        Edge.due("no things", x.count(6), 0);
        Edge.due("no finding", x.count(8), 0);
        for (int i = 2; i <= 12; i++) x.add(0, 1, 2, i);
        for (int i = 2; i <= 8; i++) x.add(1, 1, 2, i);
        Edge.due("the last star", x.put(2, 0, 11), 1);
        Edge.due("star 12", x.put(2, 0, 12), Edge.BAD);
        Edge.due("the last spot", x.put(2, 1, 7), 2);
        Edge.due("spot 8", x.put(2, 1, 8), Edge.BAD);
        isThing(x, 2, 0, 0, 1, 2, 12);
        isThing(x, 2, 1, 1, 1, 2, 8);
    }

    @Edge.Says("BAD; FULL; STORE.")
    static void putTellsBadThenFullThenStore() {
        StarTracker x = both();
        Edge.due("BAD ahead of STORE", x.put(0, 1, 1), Edge.BAD);
        Edge.due("BAD ahead of STORE", x.put(1, 0, 1), Edge.BAD);
        Edge.due("no finding", x.count(8), 0);
        for (int n = 0; n < 8; n++) {
            x.put(0, 0, 0);
            x.put(1, 1, 0);
        }
        Edge.due("FULL ahead of STORE", x.put(0, 1, 0), Edge.FULL);
        Edge.due("FULL ahead of STORE", x.put(1, 0, 0), Edge.FULL);
        Edge.due("BAD ahead of FULL", x.put(0, 0, 1), Edge.BAD);
        Edge.due("BAD ahead of FULL and STORE", x.put(0, 1, 1), Edge.BAD);
        Edge.due("BAD kind ahead of FULL", x.put(0, 2, 0), Edge.BAD);
        Edge.due("no finding", x.count(8), 0);
        x.take(0);
        Edge.due("STORE, as there is room", x.put(0, 1, 0), Edge.STORE);
    }

    @Edge.Says("What is put there stays what it was.")
    static void thingsStayWhatTheyWere() {
        StarTracker x = both();
        x.put(2, 0, 0);
        x.put(2, 1, 0);
        x.put(0, 0, 0);
        x.put(1, 1, 0);
        x.back(0);
        x.back(1);
        isThing(x, 2, 0, 0, 1, 2, 3);
        isThing(x, 2, 1, 1, 4, 5, 6);
        x.add(0, 7, 8, 9);
        x.see(1, 1, 1, 1, 0, 0);
        isThing(x, 2, 0, 0, 1, 2, 3);
        isThing(x, 2, 1, 1, 4, 5, 6);
        isThing(x, 0, 0, 0, 1, 2, 3);
        isThing(x, 1, 0, 1, 4, 5, 6);
    }

    // ---- promise 20

    @Edge.Says("TRAY b becomes as TRAY a is, also as to what it holds (a stays): how many are there. BAD.")
    static void forkOfEachTrayToEach() {
        for (int a = 0; a < 4; a++) {
            for (int b = 0; b < 4; b++) {
                StarTracker x = both();
                for (int t = 0; t < 4; t++) for (int n = 0; n <= t; n++) x.put(t, kindFor(t), 0);
                Edge.due("fork", x.fork(a, b), a + 1);
                Edge.due("in all", x.count(6), 10 - (b + 1) + (a + 1));
                int kind = kindFor(a);
                isThing(x, b, a, kind, 1 + 3 * kind, 2 + 3 * kind, 3 + 3 * kind);
                Edge.due("no more", x.thing(b, a + 1, 0), Edge.LEAST_INT);
                isThing(x, a, a, kind, 1 + 3 * kind, 2 + 3 * kind, 3 + 3 * kind);
                Edge.due("a holds stars", x.put(a, 0, 0), a == 1 ? Edge.STORE : a + 2);
                if (a != 1) x.take(a);
                Edge.due("b holds stars", x.put(b, 0, 0), a == 1 ? Edge.STORE : a + 2);
                if (a != 1) x.take(b);
                Edge.due("a holds spots", x.put(a, 1, 0), a == 0 ? Edge.STORE : a + 2);
                if (a != 0) x.take(a);
                Edge.due("b holds spots", x.put(b, 1, 0), a == 0 ? Edge.STORE : a + 2);
            }
        }
    }

    @Edge.Says("(a stays)")
    static void forkedTraysAreApart() {
        StarTracker x = both();
        x.put(2, 0, 0);
        x.put(2, 1, 0);
        x.fork(2, 3);
        x.take(2);
        x.put(2, 0, 0);
        isThing(x, 3, 1, 1, 4, 5, 6);
        x.take(3);
        x.take(3);
        isThing(x, 2, 0, 0, 1, 2, 3);
        isThing(x, 2, 1, 0, 1, 2, 3);
        Edge.due("in all", x.count(6), 2);
    }

    @Edge.Says("TRAY b becomes as TRAY a is")
    static void forkOfEmptyAndFullTrays() {
        StarTracker x = both();
        for (int n = 0; n < 8; n++) x.put(3, n % 2, 0);
        Edge.due("full over empty", x.fork(3, 0), 8);
        for (int n = 0; n < 8; n++) isThing(x, 0, n, n % 2, 1 + 3 * (n % 2), 2 + 3 * (n % 2), 3 + 3 * (n % 2));
        Edge.due("full", x.put(0, 1, 0), Edge.FULL);
        Edge.due("in all", x.count(6), 16);
        Edge.due("itself, full", x.fork(3, 3), 8);
        isThing(x, 3, 7, 1, 4, 5, 6);
        Edge.due("empty over full", x.fork(1, 3), 0);
        Edge.due("empty", x.thing(3, 0, 0), Edge.LEAST_INT);
        Edge.due("empty", x.take(3), Edge.NOT);
        Edge.due("in all", x.count(6), 8);
        Edge.due("spots alone", x.put(3, 0, 0), Edge.STORE);
        Edge.due("itself, empty", x.fork(2, 2), 0);
    }

    @Edge.Says("how many are there. BAD.")
    static void forkRefuses() {
        StarTracker x = both();
        x.put(0, 0, 0);
        for (int v : Edge.outside(0, 3)) {
            Edge.due("a " + v, x.fork(v, 0), Edge.BAD);
            Edge.due("b " + v, x.fork(0, v), Edge.BAD);
            Edge.due("both " + v, x.fork(v, v), Edge.BAD);
        }
        Edge.due("in all", x.count(6), 1);
    }

    // ---- promise 21

    @Edge.Says("The last thing of a TRAY is taken out: how many are left. BAD; NOT: it is empty.")
    static void takeGoesDownToNone() {
        for (int t = 0; t < 4; t++) {
            StarTracker x = both();
            Edge.due("empty", x.take(t), Edge.NOT);
            for (int n = 0; n < 8; n++) x.put(t, kindFor(t), 0);
            for (int n = 7; n >= 0; n--) {
                Edge.due("take", x.take(t), n);
                Edge.due("in all", x.count(6), n);
                Edge.due("the last is gone", x.thing(t, n, 0), Edge.LEAST_INT);
                if (n > 0) Edge.due("the one ahead stays", x.thing(t, n - 1, 0), kindFor(t));
            }
            Edge.due("empty", x.take(t), Edge.NOT);
            Edge.due("empty still", x.count(6), 0);
            Edge.due("it holds what it held", x.put(t, kindFor(t), 0), 1);
        }
    }

    @Edge.Says("The last thing of a TRAY is taken out")
    static void takeTakesTheLast() {
        StarTracker x = both();
        x.put(2, 1, 0);
        x.put(2, 0, 0);
        x.put(3, 0, 0);
        Edge.due("take", x.take(2), 1);
        isThing(x, 2, 0, 1, 4, 5, 6);
        isThing(x, 3, 0, 0, 1, 2, 3);
    }

    @Edge.Says("BAD; NOT: it is empty.")
    static void takeRefuses() {
        StarTracker x = both();
        x.put(0, 0, 0);
        x.put(3, 0, 0);
        for (int v : Edge.outside(0, 3)) Edge.due("tray " + v, x.take(v), Edge.BAD);
        Edge.due("in all", x.count(6), 2);
        Edge.due("NOT", x.take(1), Edge.NOT);
        Edge.due("no finding", x.count(8), 0);
    }

    // ---- promise 22

    @Edge.Says("Of thing i (0 to 7) of a TRAY whether it is a SPOT (what = 0: 1, 0), x (1), y (2), z (3)")
    static void thingFromTheFirstToTheLast() {
        StarTracker x = new StarTracker();
        for (int i = 0; i < 8; i++) {
            x.add(0, i - 100, 100 - i, i);
            x.add(1, 100 - i, i, i - 100);
        }
        for (int i = 0; i < 8; i++) {
            Edge.due("none yet", x.thing(2, i, 0), Edge.LEAST_INT);
            x.put(2, i % 2, i);
            if (i % 2 == 0) isThing(x, 2, i, 0, i - 100, 100 - i, i);
            else isThing(x, 2, i, 1, 100 - i, i, i - 100);
        }
        isThing(x, 2, 0, 0, -100, 100, 0);
        for (int v : Edge.outside(0, 7)) for (int w = 0; w < 4; w++) Edge.due("thing " + v, x.thing(2, v, w), Edge.LEAST_INT);
    }

    @Edge.Says("the least int: there is no such one, BAD.")
    static void thingRefuses() {
        StarTracker x = both();
        for (int t = 0; t < 4; t++) for (int i = 0; i < 8; i++) Edge.due("empty", x.thing(t, i, 1), Edge.LEAST_INT);
        x.put(3, 0, 0);
        for (int v : Edge.outside(0, 3)) {
            Edge.due("tray " + v, x.thing(v, 0, 0), Edge.LEAST_INT);
            Edge.due("what " + v, x.thing(3, 0, v), Edge.LEAST_INT);
        }
        Edge.due("thing 1 of 1", x.thing(3, 1, 0), Edge.LEAST_INT);
        Edge.due("thing -1", x.thing(3, -1, 0), Edge.LEAST_INT);
        Edge.due("no finding", x.count(8), 0);
    }

    // ---- promise 23

    private static void isShare(String what, int[] one, int[] other, float want) {
        StarTracker x = Edge.with(Edge.star(one[0], one[1], one[2]), Edge.spot(other[0], other[1], other[2]));
        x.put(3, 0, 0);
        x.put(3, 1, 0);
        Edge.due(what, x.share(3, 0, 1), Float.floatToIntBits(want));
        Edge.due("with itself", x.share(3, 0, 0), 0x3F800000);
        Edge.due("with itself", x.share(3, 1, 1), 0x3F800000);
    }

    @Edge.Says("x, y, z of things i and j of a TRAY multiplied and added, by those of i and i, as a float: its bits.")
    static void shareAtItsEdges() {
        isShare("the greatest", new int[] {1, 0, 0}, new int[] {100, 100, 100}, 100f);
        isShare("the least", new int[] {0, -1, 0}, new int[] {100, 100, 100}, -100f);
        isShare("300 by 3", new int[] {1, 1, 1}, new int[] {100, 100, 100}, 100f);
        isShare("near to 0", new int[] {100, 100, 100}, new int[] {0, 0, 1}, 100f / 30000f);
        isShare("nearest to 0", new int[] {100, 100, 99}, new int[] {-1, 1, 0}, 0f);
        isShare("1 by 29801", new int[] {100, 99, 100}, new int[] {1, -1, 0}, 1f / 29801f);
        isShare("-1 by 29801", new int[] {100, 99, 100}, new int[] {-1, 1, 0}, -1f / 29801f);
        isShare("the opposite", new int[] {100, -100, 100}, new int[] {-100, 100, -100}, -1f);
        isShare("a third", new int[] {1, 1, 1}, new int[] {1, 0, 0}, 1f / 3f);
        isShare("two thirds", new int[] {1, 1, 1}, new int[] {1, 1, 0}, 2f / 3f);
        isShare("just below 1", new int[] {100, 100, 100}, new int[] {100, 100, 99}, 29900f / 30000f);
        isShare("just above 1", new int[] {100, 100, 99}, new int[] {100, 100, 100}, 29900f / 29801f);
    }

    @Edge.Says("as a float: its bits.")
    static void shareOfNothingInCommonIs0AndNotTheLeastInt() {
        for (int[] d : new int[][] {{0, 1, 0}, {0, -1, 0}, {0, 0, 100}, {0, -100, -100}}) {
            StarTracker x = Edge.with(Edge.star(-1, 0, 0), Edge.star(d[0], d[1], d[2]));
            x.put(0, 0, 0);
            x.put(0, 0, 1);
            Edge.due("0", x.share(0, 0, 1), 0);
            Edge.due("0", x.share(0, 1, 0), 0);
        }
    }

    @Edge.Says("as a float: its bits.")
    static void shareIsTheNearestFloat() {
        for (int a = 1; a <= 100; a++)
            for (int b = 1; b <= 100; b++) {
                StarTracker x = Edge.with(Edge.star(a, 0, 0), Edge.spot(0, 0, -1), Edge.spot(b, 0, 0), Edge.spot(-b, 100, 0));
                x.put(2, 0, 0);
                x.put(2, 1, 1);
                x.put(2, 1, 2);
                Edge.due(b + " by " + a, x.share(2, 0, 1), Float.floatToIntBits((float) b / a));
                Edge.due(-b + " by " + a, x.share(2, 0, 2), Float.floatToIntBits((float) -b / a));
            }
    }

    @Edge.Says("BAD, no such things: the least int.")
    static void shareRefuses() {
        StarTracker x = both();
        for (int t = 0; t < 4; t++) Edge.due("empty", x.share(t, 0, 0), Edge.LEAST_INT);
        for (int n = 0; n < 8; n++) {
            Edge.due("i is not there", x.share(2, n, 0), Edge.LEAST_INT);
            Edge.due("j is not there", x.share(2, 0, n), Edge.LEAST_INT);
            x.put(2, 0, 0);
            Edge.due("i is there", x.share(2, n, 0), 0x3F800000);
            Edge.due("j is there", x.share(2, 0, n), 0x3F800000);
        }
        for (int v : Edge.outside(0, 7)) {
            Edge.due("i " + v, x.share(2, v, 0), Edge.LEAST_INT);
            Edge.due("j " + v, x.share(2, 0, v), Edge.LEAST_INT);
            Edge.due("both " + v, x.share(2, v, v), Edge.LEAST_INT);
        }
        for (int v : Edge.outside(0, 3)) Edge.due("tray " + v, x.share(v, 0, 0), Edge.LEAST_INT);
        Edge.due("no finding", x.count(8), 0);
    }
}
