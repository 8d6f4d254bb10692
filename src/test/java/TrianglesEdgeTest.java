/** The edges of promises 8 to 12: sides, keys, what is looked at, votes, what is taken. */
public final class TrianglesEdgeTest {
    private static final int[][] ORDERS = {{0, 1, 2}, {0, 2, 1}, {1, 0, 2}, {1, 2, 0}, {2, 0, 1}, {2, 1, 0}};
    private static final int[] TRIANGLES = {0, 0, 0, 1, 4, 10, 20, 35, 56, 84, 120, 165, 220};

    public static void main(String[] args) throws Exception {
        Edge.run(TrianglesEdgeTest.class);
    }

    /** Of each kind: sides 100 of 0 and 1, 400 of 0 and 2, 500 of 1 and 2. */
    private static int[][] uneven(int kind) {
        return new int[][] {{kind, 1, 1, 1}, {kind, 11, 1, 1}, {kind, 1, 21, 1}};
    }

    /** Like ones of both kinds, the spots in another order: spot n is star order[n]. */
    private static StarTracker unevenBy(int... order) {
        StarTracker x = Edge.with(uneven(0));
        for (int n : order) x.add(1, uneven(1)[n][1], uneven(1)[n][2], uneven(1)[n][3]);
        return x;
    }

    /** So many stars and spots, so near to one another that every order of every two triangles matches. */
    private static StarTracker crowd(int stars, int spots) {
        StarTracker x = new StarTracker();
        for (int i = 0; i < stars; i++) x.add(0, 1 + i % 3, i / 3 % 2, i / 6);
        for (int p = 0; p < spots; p++) x.add(1, p % 2, 1 + p / 2 % 2, p / 4);
        x.set(Edge.BUCKET, 9999);
        x.set(Edge.TOLERANCE, 9999);
        return x;
    }

    /**
     * A triangle that is bent: side a by a of its points 0 and 1, 25 of 0 and 2, and of 1 and 2 what b (5, 4, 3, 0
     * and below) makes of it: a by a and 25, less 2 a b. Its points come in the order told.
     */
    private static void bent(StarTracker x, int kind, int a, int b, int... order) {
        int up = Math.abs(b) == 5 ? 0 : Math.abs(b) == 4 ? 3 : Math.abs(b) == 3 ? 4 : 5;
        int[][] points = {{1, 1, 1}, {1 + a, 1, 1}, {1 + b, 1 + up, 1}};
        for (int n : order) x.add(kind, points[n][0], points[n][1], points[n][2]);
    }

    // ---- promise 8

    @Edge.Says("The SIDE of two is the sum of the squares of what their x, y, z differ by.")
    static void sideGoesFrom0To120000() {
        for (int kind = 0; kind < 2; kind++) {
            StarTracker x = new StarTracker();
            x.add(kind, 100, 100, 100);
            x.add(kind, -100, -100, -100);
            x.add(kind, 100, 100, 100);
            x.add(kind, 99, 100, 100);
            x.add(kind, 100, 98, 97);
            Edge.due("the greatest", x.side(kind, 0, 1), 120000);
            Edge.due("the greatest, the other way round", x.side(kind, 1, 0), 120000);
            Edge.due("of like ones", x.side(kind, 0, 2), 0);
            Edge.due("the least but 0", x.side(kind, 0, 3), 1);
            Edge.due("by y and z", x.side(kind, 0, 4), 4 + 9);
        }
    }

    @Edge.Says("of one with itself 0. BAD.")
    static void sideOfOneWithItselfIs0IfItIsThere() {
        for (int kind = 0; kind < 2; kind++) {
            StarTracker x = new StarTracker();
            Edge.due("none is there", x.side(kind, 0, 0), Edge.BAD);
            x.add(kind, 5, -6, 7);
            Edge.due("itself", x.side(kind, 0, 0), 0);
            Edge.due("itself, but not there", x.side(kind, 1, 1), Edge.BAD);
            Edge.due("of the other kind there is none", x.side(1 - kind, 0, 0), Edge.BAD);
        }
    }

    @Edge.Says("The SIDE of two STARS (kind = 0), SPOTS (1)")
    static void sideRefusesWhatIsNotThere() {
        StarTracker x = crowd(12, 8);
        Edge.holds("the last star", x.side(0, 11, 0) >= 0 && x.side(0, 0, 11) >= 0);
        Edge.holds("the last spot", x.side(1, 7, 0) >= 0 && x.side(1, 0, 7) >= 0);
        for (int kind = 0; kind < 2; kind++) {
            for (int v : Edge.outside(0, kind == 0 ? 11 : 7)) {
                Edge.due("i " + v, x.side(kind, v, 0), Edge.BAD);
                Edge.due("j " + v, x.side(kind, 0, v), Edge.BAD);
                Edge.due("both " + v, x.side(kind, v, v), Edge.BAD);
            }
        }
        for (int v : Edge.outside(0, 1)) Edge.due("kind " + v, x.side(v, 0, 0), Edge.BAD);
    }

    // ---- promise 9

    @Edge.Says("its KEY: its three SIDES in ascending order, each by BUCKET (1 to 9999; 400 at first), cut.")
    static void keyIsCut() {
        StarTracker x = Edge.with(uneven(0));
        int[][] due = {{400, 0, 1, 1}, {401, 0, 0, 1}, {399, 0, 1, 1}, {200, 0, 2, 2}, {201, 0, 1, 2}, {100, 1, 4, 5},
            {101, 0, 3, 4}, {99, 1, 4, 5}, {500, 0, 0, 1}, {501, 0, 0, 0}, {1, 100, 400, 500}, {2, 50, 200, 250}, {9999, 0, 0, 0}};
        for (int[] d : due) {
            x.set(Edge.BUCKET, d[0]);
            for (int k = 0; k < 3; k++) Edge.due("by " + d[0] + " number " + k, x.key(0, 0, 1, 2, k), d[k + 1]);
        }
    }

    @Edge.Says("BUCKET (1 to 9999; 400 at first)")
    static void keyAtTheGreatestSidesAndBuckets() {
        StarTracker x = Edge.with(Edge.spot(100, 100, 100), Edge.spot(-100, -100, -100), Edge.spot(-100, -100, 100));
        Edge.due("120000 by 400", x.key(1, 0, 1, 2, 2), 300);
        Edge.due("80000 by 400", x.key(1, 0, 1, 2, 1), 200);
        Edge.due("40000 by 400", x.key(1, 0, 1, 2, 0), 100);
        x.set(Edge.BUCKET, 1);
        Edge.due("120000 by 1", x.key(1, 0, 1, 2, 2), 120000);
        x.set(Edge.BUCKET, 9999);
        Edge.due("120000 by 9999", x.key(1, 0, 1, 2, 2), 12);
        StarTracker y = Edge.with(Edge.star(7, 7, 7), Edge.star(7, 7, 7), Edge.star(7, 7, 7));
        y.set(Edge.BUCKET, 1);
        for (int k = 0; k < 3; k++) Edge.due("of like ones", y.key(0, 0, 1, 2, k), 0);
    }

    @Edge.Says("of unlike numbers, in whatever order. BAD.")
    static void keyWantsUnlikeNumbersInWhateverOrder() {
        for (int kind = 0; kind < 2; kind++) {
            StarTracker x = Edge.with(uneven(kind));
            x.set(Edge.BUCKET, 1);
            int[] due = {100, 400, 500};
            for (int[] o : ORDERS)
                for (int k = 0; k < 3; k++) Edge.due("number " + k, x.key(kind, o[0], o[1], o[2], k), due[k]);
            for (int i = 0; i < 3; i++) {
                Edge.due("all alike", x.key(kind, i, i, i, 0), Edge.BAD);
                int j = (i + 1) % 3;
                Edge.due("first two alike", x.key(kind, i, i, j, 0), Edge.BAD);
                Edge.due("last two alike", x.key(kind, j, i, i, 0), Edge.BAD);
                Edge.due("first and last alike", x.key(kind, i, j, i, 0), Edge.BAD);
            }
        }
    }

    @Edge.Says("Number k (0 to 2) of the KEY of the TRIANGLE of three STARS (kind = 0), SPOTS (1)")
    static void keyRefusesWhatIsNotThere() {
        for (int kind = 0; kind < 2; kind++) {
            StarTracker x = Edge.with(uneven(kind));
            for (int v : Edge.outside(0, 2)) {
                Edge.due("k " + v, x.key(kind, 0, 1, 2, v), Edge.BAD);
                Edge.due("a " + v, x.key(kind, v, 1, 2, 0), Edge.BAD);
                Edge.due("b " + v, x.key(kind, 0, v, 2, 0), Edge.BAD);
                Edge.due("c " + v, x.key(kind, 0, 1, v, 0), Edge.BAD);
            }
            for (int v : Edge.outside(0, 1)) Edge.due("kind " + v, x.key(v, 0, 1, 2, 0), Edge.BAD);
            Edge.due("none of the other kind", x.key(1 - kind, 0, 1, 2, 0), Edge.BAD);
            x.back(kind);
            Edge.due("two alone", x.key(kind, 0, 1, 2, 0), Edge.BAD);
        }
        StarTracker x = crowd(12, 8);
        Edge.holds("the last stars", x.key(0, 9, 10, 11, 0) >= 0 && x.key(1, 5, 6, 7, 2) >= 0);
        Edge.due("star 12", x.key(0, 9, 10, 12, 0), Edge.BAD);
        Edge.due("spot 8", x.key(1, 6, 7, 8, 0), Edge.BAD);
    }

    // ---- promise 10

    @Edge.Says("How many TRIANGLES of STARS (what = 0), of SPOTS (1)")
    static void trianglesFromNoneToAll() {
        for (int n = 0; n <= 12; n++) {
            StarTracker x = crowd(n, Math.min(n, 8));
            Edge.due(n + " stars", x.looks(0), TRIANGLES[n]);
            Edge.due(Math.min(n, 8) + " spots", x.looks(1), TRIANGLES[Math.min(n, 8)]);
        }
        for (int n = 0; n <= 8; n++) Edge.due("spots alone", crowd(0, n).looks(1), TRIANGLES[n]);
        for (int n = 0; n <= 12; n++) Edge.due("stars alone", crowd(n, 0).looks(0), TRIANGLES[n]);
    }

    @Edge.Says("how many pairs of TRIANGLES are LOOKED AT (2), how many orders MATCH (3).")
    static void lookedAtFromNoneToAll() {
        for (int stars : new int[] {0, 1, 2, 3, 4, 11, 12}) {
            for (int spots : new int[] {0, 1, 2, 3, 4, 7, 8}) {
                StarTracker x = crowd(stars, spots);
                int pairs = TRIANGLES[stars] * TRIANGLES[spots];
                Edge.due(stars + " stars " + spots + " spots", x.looks(2), pairs);
                Edge.due("their orders", x.looks(3), 6 * pairs);
                Edge.due("their votes", x.count(4), 18 * pairs);
            }
        }
    }

    @Edge.Says("How many TRIANGLES of STARS (what = 0), of SPOTS (1), how many pairs of TRIANGLES are LOOKED AT (2), how many orders MATCH (3). BAD.")
    static void looksRefusesOtherNumbers() {
        for (int v : Edge.outside(0, 3)) {
            Edge.due("what " + v, crowd(3, 3).looks(v), Edge.BAD);
            Edge.due("what " + v + " of nothing", new StarTracker().looks(v), Edge.BAD);
        }
    }

    /** Whether the one triangle of spots and the one of stars are looked at, their keys as told; then the other way round. */
    private static void neighbours(int bucket, int a, int oneB, int otherB, int[] oneKey, int[] otherKey, int looked) {
        for (int swap = 0; swap < 2; swap++) {
            StarTracker x = new StarTracker();
            bent(x, swap, a, oneB, 0, 1, 2);
            bent(x, 1 - swap, a, otherB, 0, 1, 2);
            x.set(Edge.BUCKET, bucket);
            for (int k = 0; k < 3; k++) {
                Edge.due("key " + k, x.key(swap, 0, 1, 2, k), oneKey[k]);
                Edge.due("key " + k, x.key(1 - swap, 0, 1, 2, k), otherKey[k]);
            }
            Edge.due("looked at", x.looks(2), looked);
            x.set(Edge.TOLERANCE, 9999);
            Edge.due("orders that match by the greatest TOLERANCE", x.looks(3), 6 * looked);
        }
    }

    @Edge.Says("Two TRIANGLES are NEIGHBOURS, if of none of the three the numbers of their KEYS differ by more than 1.")
    static void neighboursByTheLeastNumber() {
        // Sides 25, 25 and 50 less 10 b: 20, 10, 0.
        neighbours(10, 5, 3, 3, new int[] {2, 2, 2}, new int[] {2, 2, 2}, 1);
        neighbours(10, 5, 3, 4, new int[] {2, 2, 2}, new int[] {1, 2, 2}, 1);
        neighbours(10, 5, 4, 5, new int[] {1, 2, 2}, new int[] {0, 2, 2}, 1);
        neighbours(10, 5, 3, 5, new int[] {2, 2, 2}, new int[] {0, 2, 2}, 0);
    }

    @Edge.Says("if of none of the three the numbers of their KEYS differ by more than 1.")
    static void neighboursByTheMiddleNumber() {
        // Sides 25, 900 and 925 less 60 b: 625, 685, 745.
        neighbours(60, 30, 5, 5, new int[] {0, 10, 15}, new int[] {0, 10, 15}, 1);
        neighbours(60, 30, 5, 4, new int[] {0, 10, 15}, new int[] {0, 11, 15}, 1);
        neighbours(60, 30, 4, 3, new int[] {0, 11, 15}, new int[] {0, 12, 15}, 1);
        neighbours(60, 30, 5, 3, new int[] {0, 10, 15}, new int[] {0, 12, 15}, 0);
    }

    @Edge.Says("the numbers of their KEYS differ by more than 1.")
    static void neighboursByTheGreatestNumber() {
        // Sides 25, 900 and 925 less 60 b: 1105, 1165, 1225.
        neighbours(60, 30, -3, -3, new int[] {0, 15, 18}, new int[] {0, 15, 18}, 1);
        neighbours(60, 30, -3, -4, new int[] {0, 15, 18}, new int[] {0, 15, 19}, 1);
        neighbours(60, 30, -4, -5, new int[] {0, 15, 19}, new int[] {0, 15, 20}, 1);
        neighbours(60, 30, -3, -5, new int[] {0, 15, 18}, new int[] {0, 15, 20}, 0);
    }

    @Edge.Says("Of each TRIANGLE of SPOTS p, q, r each TRIANGLE of STARS that is its NEIGHBOUR is LOOKED AT")
    static void whatIsNoNeighbourDoesNotMatchHoweverNear() {
        // By BUCKET 1: 400 and 404, 500 and 504 are no neighbours, though within TOLERANCE.
        StarTracker x = Edge.with(uneven(0));
        x.add(1, 1, 1, 1);
        x.add(1, 11, 1, 1);
        x.add(1, 1, 21, 3);
        x.set(Edge.BUCKET, 1);
        Edge.due("looked at", x.looks(2), 0);
        Edge.due("match", x.looks(3), 0);
        Edge.due("votes", x.votes(0, 0), 0);
        x.set(Edge.BUCKET, 4);
        Edge.due("looked at by 4", x.looks(2), 1);
        Edge.due("match by 4", x.looks(3) > 0 ? 1 : 0, 1);
    }

    // ---- promise 11

    @Edge.Says("differ by no more than TOLERANCE (0 to 9999; 200 at first), likewise of q, r and j, k, and of p, r and i, k")
    static void matchesByToleranceOfEachSideEitherWay() {
        // The third side is 745 or 685; it comes to be that of p and q, of q and r, of p and r.
        for (int[] o : ORDERS) {
            for (int swap = 0; swap < 2; swap++) {
                StarTracker x = new StarTracker();
                bent(x, 0, 30, 3 + swap, o);
                bent(x, 1, 30, 4 - swap, o);
                x.set(Edge.BUCKET, 9999);
                x.set(Edge.TOLERANCE, 59);
                Edge.due("by 59", x.looks(3), 0);
                Edge.due("looked at all the same", x.looks(2), 1);
                x.set(Edge.TOLERANCE, 60);
                Edge.due("by 60", x.looks(3), 1);
                for (int p = 0; p < 3; p++)
                    for (int i = 0; i < 3; i++) Edge.due("votes(" + p + ", " + i + ")", x.votes(p, i), p == i ? 1 : 0);
            }
        }
    }

    @Edge.Says("TOLERANCE (0 to 9999; 200 at first)")
    static void matchesByTheLeastTolerance() {
        StarTracker x = unevenBy(0, 1, 2);
        x.set(Edge.TOLERANCE, 0);
        Edge.due("like ones by 0", x.looks(3), 1);
        x.back(1);
        x.add(1, 1, 21, 2);
        Edge.due("401 and 501 by 0", x.looks(3), 0);
        x.set(Edge.TOLERANCE, 1);
        Edge.due("401 and 501 by 1", x.looks(3), 1);
    }

    @Edge.Says("TOLERANCE (0 to 9999; 200 at first)")
    static void matchesByTheGreatestTolerance() {
        // Spots have sides 10000, 10000, 0; stars 1, 1, 0: only star 0 may be spot 0.
        StarTracker x = Edge.with(Edge.star(10, 0, 0), Edge.star(11, 0, 0), Edge.star(11, 0, 0),
            Edge.spot(10, 0, 0), Edge.spot(10, 60, 80), Edge.spot(10, 60, 80));
        x.set(Edge.BUCKET, 9999);
        x.set(Edge.TOLERANCE, 9999);
        Edge.due("9999 by 9999", x.looks(3), 2);
        Edge.due("votes", x.votes(0, 0), 2);
        x.set(Edge.TOLERANCE, 9998);
        Edge.due("9999 by 9998", x.looks(3), 0);
        // Stars have sides 0 alone.
        x = Edge.with(Edge.star(10, 0, 0), Edge.star(10, 0, 0), Edge.star(10, 0, 0),
            Edge.spot(10, 0, 0), Edge.spot(10, 60, 80), Edge.spot(10, 60, 80));
        x.set(Edge.BUCKET, 9999);
        x.set(Edge.TOLERANCE, 9999);
        Edge.due("looked at", x.looks(2), 1);
        Edge.due("10000 by 9999", x.looks(3), 0);
    }

    @Edge.Says("TOLERANCE (0 to 9999; 200 at first)")
    static void matchesByTheFirstTolerance() {
        // Sides 100, 25 and 125 less 20 b: 25 or 225 differ by 200, by BUCKET 9999.
        StarTracker x = new StarTracker();
        bent(x, 0, 10, 5, 0, 1, 2);
        bent(x, 1, 10, -5, 0, 1, 2);
        x.set(Edge.BUCKET, 9999);
        Edge.due("sides", x.side(1, 1, 2) - x.side(0, 1, 2), 200);
        Edge.due("by 200", x.looks(3), 6);
        x.set(Edge.TOLERANCE, 199);
        Edge.due("by 199", x.looks(3), 2);
    }

    @Edge.Says("for each order i, j, k of its three STARS it MATCHES")
    static void eachOrderIsTriedByItself() {
        for (int[] o : ORDERS) {
            StarTracker x = unevenBy(o);
            x.set(Edge.TOLERANCE, 0);
            Edge.due("one order matches", x.looks(3), 1);
            for (int p = 0; p < 3; p++)
                for (int i = 0; i < 3; i++) Edge.due("votes(" + p + ", " + i + ")", x.votes(p, i), i == o[p] ? 1 : 0);
        }
        StarTracker like = Edge.with(Edge.star(10, 0, 0), Edge.star(0, 10, 0), Edge.star(0, 0, 10));
        like.see(3, 0, 0, 0, 0, 0);
        like.set(Edge.TOLERANCE, 0);
        Edge.due("all six match", like.looks(3), 6);
        for (int p = 0; p < 3; p++) for (int i = 0; i < 3; i++) Edge.due("each pair by two", like.votes(p, i), 2);
    }

    @Edge.Says("then the pairs p i, q j, r k get a VOTE each.")
    static void votesFromNoneToMost() {
        StarTracker x = crowd(12, 8);
        for (int p = 0; p < 8; p++) for (int i = 0; i < 12; i++) Edge.due("the most", x.votes(p, i), 21 * 55 * 2);
        x = crowd(12, 2);
        for (int p = 0; p < 2; p++) for (int i = 0; i < 12; i++) Edge.due("two spots", x.votes(p, i), 0);
        x = crowd(2, 8);
        for (int p = 0; p < 8; p++) for (int i = 0; i < 2; i++) Edge.due("two stars", x.votes(p, i), 0);
    }

    @Edge.Says("VOTES of a pair. BAD.")
    static void votesRefuse() {
        StarTracker x = crowd(12, 8);
        for (int v : Edge.outside(0, 7)) Edge.due("spot " + v, x.votes(v, 0), Edge.BAD);
        for (int v : Edge.outside(0, 11)) Edge.due("star " + v, x.votes(0, v), Edge.BAD);
        Edge.due("both", x.votes(8, 12), Edge.BAD);
        Edge.due("nothing there", new StarTracker().votes(0, 0), Edge.BAD);
        Edge.due("no spots", crowd(12, 0).votes(0, 0), Edge.BAD);
        Edge.due("no stars", crowd(0, 8).votes(0, 0), Edge.BAD);
        StarTracker y = unevenBy(0, 1, 2);
        y.back(0);
        Edge.due("star that was undone", y.votes(0, 2), Edge.BAD);
        y.back(1);
        Edge.due("spot that was undone", y.votes(2, 0), Edge.BAD);
    }

    // ---- promise 12

    private static void isTaken(StarTracker x, int spot, int star, int rank) {
        Edge.due("taken(" + spot + ", 0)", x.taken(spot, 0), star);
        Edge.due("taken(" + spot + ", 1)", x.taken(spot, 1), rank);
    }

    @Edge.Says("ever the one with most VOTES")
    static void mostVotesAreTakenFirst() {
        StarTracker x = unevenBy(0, 2, 1);
        x.set(Edge.TOLERANCE, 100);
        Edge.due("the most", x.votes(1, 2), 2);
        Edge.due("less", x.votes(0, 0), 1);
        isTaken(x, 1, 2, 0);
        isTaken(x, 0, 0, 1);
        isTaken(x, 2, 1, 2);
    }

    @Edge.Says("TAKEN are pairs")
    static void starsBehindTheNumberOfSpotsAreTakenToo() {
        StarTracker x = Edge.sky();
        int[][] last = {{-90, 17, -8}, {23, -61, 77}, {-15, -97, -42}, {64, 38, 59}};
        for (int[] d : last) x.add(Edge.STAR, d[0], d[1], d[2]);
        x.set(Edge.TOLERANCE, 0);
        // Four spots of stars 11, 10, 9, 8, then one undone after the other: fewer spots than any star's number.
        for (int i = 3; i >= 0; i--) x.add(Edge.SPOT, last[i][0], last[i][1], last[i][2]);
        for (int spots = 4; spots >= 3; spots--) {
            Edge.due("all of " + spots, x.count(2), spots);
            for (int p = 0; p < spots; p++) isTaken(x, p, 11 - p, p);
            x.back(Edge.SPOT);
        }
    }

    @Edge.Says("LEAST (1 to 99; 1 at first) at least")
    static void pairsBelowLeastAreNotTaken() {
        StarTracker x = unevenBy(0, 2, 1);
        x.set(Edge.TOLERANCE, 100);
        Edge.due("by 1", x.count(2), 3);
        x.set(Edge.LEAST, 2);
        Edge.due("by 2", x.count(2), 1);
        isTaken(x, 1, 2, 0);
        isTaken(x, 0, Edge.NONE, Edge.NONE);
        isTaken(x, 2, Edge.NONE, Edge.NONE);
        x.set(Edge.LEAST, 3);
        Edge.due("by 3", x.count(2), 0);
        isTaken(x, 1, Edge.NONE, Edge.NONE);
        // 15 times 3 times 2 votes, 21 times 3 times 2 votes.
        x = crowd(4, 7);
        x.set(Edge.LEAST, 90);
        Edge.due("90 by 90", x.count(2), 4);
        x.set(Edge.LEAST, 91);
        Edge.due("90 by 91", x.count(2), 0);
        x.set(Edge.LEAST, 99);
        Edge.due("90 by 99", x.count(2), 0);
        x.add(1, 1, 1, 1);
        Edge.due("126 by 99", x.count(2), 4);
    }

    @Edge.Says("LEAST (1 to 99; 1 at first) at least")
    static void pairsWithoutVotesAreNeverTaken() {
        StarTracker x = unevenBy(0, 1);
        x.add(1, 90, 90, 90);
        Edge.due("no votes", x.count(4), 0);
        Edge.due("none is taken", x.count(2), 0);
        for (int p = 0; p < 3; p++) isTaken(x, p, Edge.NONE, Edge.NONE);
        Edge.due("LEAST 0", x.set(Edge.LEAST, 0), Edge.BAD);
        Edge.due("none is taken", x.count(2), 0);
    }

    @Edge.Says("of like ones with the least SPOT")
    static void ofLikePairsTheLeastSpotComesFirst() {
        for (int[] o : ORDERS) {
            StarTracker x = unevenBy(o);
            x.set(Edge.TOLERANCE, 0);
            for (int p = 0; p < 3; p++) isTaken(x, p, o[p], p);
        }
        // Star 1 is wanted by spots 1 and 3 alike.
        StarTracker y = unevenBy(0, 1, 2, 1);
        y.set(Edge.TOLERANCE, 0);
        Edge.due("alike", y.votes(1, 1), y.votes(3, 1));
        isTaken(y, 0, 0, 0);
        isTaken(y, 2, 2, 1);
        isTaken(y, 1, 1, 2);
        isTaken(y, 3, Edge.NONE, Edge.NONE);
        Edge.due("three", y.count(2), 3);
    }

    @Edge.Says("of like ones the least STAR")
    static void ofLikePairsOfASpotTheLeastStarComesFirst() {
        // Stars 1 and 3 are alike.
        StarTracker x = unevenBy(0, 1, 2);
        x.add(0, 11, 1, 1);
        x.set(Edge.TOLERANCE, 0);
        Edge.due("alike", x.votes(1, 1), x.votes(1, 3));
        Edge.due("alike", x.votes(1, 3), 1);
        isTaken(x, 0, 0, 0);
        isTaken(x, 2, 2, 1);
        isTaken(x, 1, 1, 2);
        Edge.due("three", x.count(2), 3);
    }

    @Edge.Says("of those whose SPOT and STAR are in none that is TAKEN.")
    static void eachSpotAndStarIsTakenOnce() {
        for (int stars = 3; stars <= 12; stars++) {
            for (int spots = 3; spots <= 8; spots++) {
                StarTracker x = crowd(stars, spots);
                int both = Math.min(stars, spots);
                Edge.due("taken", x.count(2), both);
                for (int p = 0; p < spots; p++) isTaken(x, p, p < both ? p : Edge.NONE, p < both ? p : Edge.NONE);
            }
        }
    }

    @Edge.Says("The STAR with which a SPOT is TAKEN (what = 0), as which one that is (1: 0 on); NONE. BAD.")
    static void takenRefuses() {
        StarTracker x = crowd(12, 8);
        isTaken(x, 7, 7, 7);
        for (int w = 0; w < 2; w++) for (int v : Edge.outside(0, 7)) Edge.due("spot " + v, x.taken(v, w), Edge.BAD);
        for (int v : Edge.outside(0, 1)) Edge.due("what " + v, x.taken(0, v), Edge.BAD);
        Edge.due("no spots", crowd(12, 0).taken(0, 0), Edge.BAD);
        isTaken(crowd(0, 1), 0, Edge.NONE, Edge.NONE);
        x.back(1);
        Edge.due("spot that was undone", x.taken(7, 0), Edge.BAD);
    }
}
