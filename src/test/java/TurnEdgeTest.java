/** The edges of promises 13 to 18: the turn, places, what is confirmed, wrong, better, spare. */
public final class TurnEdgeTest {
    public static void main(String[] args) throws Exception {
        Edge.run(TurnEdgeTest.class);
    }

    private static void isPlace(StarTracker x, int star, int... d) {
        for (int w = 0; w < 3; w++) Edge.due("place(" + star + ", " + w + ")", x.place(star, w), d[w]);
    }

    private static void isConfirmed(StarTracker x, int spot, int star, int far) {
        Edge.due("confirmed(" + spot + ", 0)", x.confirmed(spot, 0), star);
        Edge.due("confirmed(" + spot + ", 1)", x.confirmed(spot, 1), far);
    }

    /** Three stars, seen as they are: each place is the star itself. More stars and spots may come behind. */
    private static StarTracker still(int[]... more) {
        StarTracker x = Edge.with(Edge.star(100, 0, 0), Edge.star(0, 90, 10), Edge.star(10, 20, 95));
        x.see(3, 0, 0, 0, 0, 0);
        for (int[] d : more) x.add(d[0], d[1], d[2], d[3]);
        x.set(Edge.TOLERANCE, 0);
        return x;
    }

    // ---- promise 13

    @Edge.Says("There is no TURN without two pairs")
    static void noTurnWithoutPairs() {
        Edge.due("nothing there", new StarTracker().turn(), 0);
        StarTracker x = Edge.sky();
        Edge.due("no spots", x.turn(), 0);
        for (int n = 0; n <= 2; n++) {
            x.see(n, 0, 0, 0, 0, 0);
            Edge.due(n + " spots", x.turn(), 0);
            Edge.due("no pair", x.count(2), 0);
        }
        x.see(3, 0, 0, 0, 0, 0);
        Edge.due("three spots", x.turn(), 1);
        x = Edge.with(Edge.spot(100, 0, 0), Edge.spot(0, 90, 10), Edge.spot(10, 20, 95));
        Edge.due("no stars", x.turn(), 0);
    }

    @Edge.Says("There is no TURN without two pairs")
    static void noTurnByOnePair() {
        // By 100 one pair has two votes, all others one.
        StarTracker x = Edge.with(Edge.star(1, 1, 1), Edge.star(11, 1, 1), Edge.star(1, 21, 1),
            Edge.spot(1, 1, 1), Edge.spot(1, 21, 1), Edge.spot(11, 1, 1));
        x.set(Edge.TOLERANCE, 100);
        Edge.due("three pairs", x.turn(), 1);
        x.set(Edge.LEAST, 2);
        Edge.due("one pair", x.count(2), 1);
        Edge.due("one pair", x.turn(), 0);
        Edge.due("no place", x.place(0, 0), Edge.LEAST_INT);
    }

    @Edge.Says("There is no TURN without two pairs")
    static void turnByTwoPairs() {
        // The last star is there twice, so that its spot has one vote for each, the others two.
        StarTracker x = Edge.with(Edge.star(1, 1, 1), Edge.star(11, 1, 1), Edge.star(1, 21, 1), Edge.star(1, 21, 1));
        x.see(3, 0, 0, 0, 0, 0);
        x.set(Edge.TOLERANCE, 0);
        x.set(Edge.LEAST, 2);
        Edge.due("two pairs", x.count(2), 2);
        Edge.due("two pairs", x.turn(), 1);
        isPlace(x, 3, 1, 21, 1);
    }

    @Edge.Says("or if a by b, or v by w, is all 0.")
    static void noTurnBySpotsInLine() {
        // Stars (10, 0, 1) and (20, 0, 0) are not in line, the spots are; sides differ by 1 at most.
        StarTracker x = Edge.with(Edge.star(10, 0, 1), Edge.star(20, 0, 0), Edge.star(0, 50, 0),
            Edge.spot(0, 10, 0), Edge.spot(0, 20, 0), Edge.spot(-50, 0, 0));
        x.set(Edge.TOLERANCE, 1);
        Edge.due("pairs", x.count(2), 3);
        Edge.due("turn", x.turn(), 0);
        Edge.due("no place", x.place(0, 0), Edge.LEAST_INT);
    }

    @Edge.Says("or if a by b, or v by w, is all 0.")
    static void noTurnByStarsInLine() {
        StarTracker x = Edge.with(Edge.star(0, 10, 0), Edge.star(0, 20, 0), Edge.star(-50, 0, 0),
            Edge.spot(10, 0, 1), Edge.spot(20, 0, 0), Edge.spot(0, 50, 0));
        x.set(Edge.TOLERANCE, 1);
        Edge.due("pairs", x.count(2), 3);
        Edge.due("turn", x.turn(), 0);
        Edge.due("no place", x.place(0, 0), Edge.LEAST_INT);
    }

    @Edge.Says("or if a by b, or v by w, is all 0.")
    static void noTurnByOnesInLineEitherWay() {
        int[][] lines = {{10, 0, 0, -20, 0, 0}, {3, -4, 5, -6, 8, -10}, {20, -30, 40, 40, -60, 80}, {0, 0, 7, 0, 0, 1}};
        for (int[] d : lines) {
            StarTracker x = Edge.with(Edge.star(d[0], d[1], d[2]), Edge.star(d[3], d[4], d[5]), Edge.star(-70, 80, 90));
            x.see(3, 1, 2, 3, 0, 0);
            x.set(Edge.TOLERANCE, 0);
            Edge.due("first taken", x.taken(0, 1), 0);
            Edge.due("then", x.taken(1, 1), 1);
            Edge.due("turn", x.turn(), 0);
        }
    }

    @Edge.Says("or if a by b, or v by w, is all 0.")
    static void turnIfOneOfXyzOfAByBIsNot0() {
        int[][] flats = {{0, 10, 0, 0, 0, 20}, {0, 0, 10, 20, 0, 0}, {10, 0, 0, 0, 20, 0}, {100, 0, 0, 100, 0, 1}, {0, 0, -1, 0, 1, -1}};
        for (int[] f : flats) {
            StarTracker x = Edge.with(Edge.star(f[0], f[1], f[2]), Edge.star(f[3], f[4], f[5]), Edge.star(-40, 51, 62));
            x.see(3, 0, 0, 0, 0, 0);
            x.set(Edge.TOLERANCE, 0);
            Edge.due("turn", x.turn(), 1);
            isPlace(x, 2, -40, 51, 62);
        }
    }

    @Edge.Says("THE TURN is by the two pairs that were TAKEN first")
    static void turnIsByTheTwoTakenFirst() {
        // Spots 0 and 1 are in line, spots 0 and 2 are not: the third pair does not help.
        StarTracker x = Edge.with(Edge.star(10, 0, 0), Edge.star(20, 0, 0), Edge.star(0, 50, 0));
        x.see(3, 0, 0, 0, 0, 0);
        x.set(Edge.TOLERANCE, 0);
        Edge.due("in line", x.turn(), 0);
        x = Edge.with(Edge.star(10, 0, 0), Edge.star(0, 50, 0), Edge.star(20, 0, 0));
        x.see(3, 0, 0, 0, 0, 0);
        x.set(Edge.TOLERANCE, 0);
        Edge.due("not in line", x.turn(), 1);
        // Star 0 is there twice: spots 1 and 2 have more votes, the turn is theirs, by 18 for 20 and 48 for 50.
        x = Edge.with(Edge.star(0, 0, 30), Edge.star(20, 0, 0), Edge.star(0, 50, 0), Edge.star(0, 0, 30),
            Edge.spot(0, 0, 28), Edge.spot(18, 0, 0), Edge.spot(0, 48, 0));
        x.set(Edge.BUCKET, 9999);
        x.set(Edge.TOLERANCE, 312);
        Edge.due("votes", x.votes(1, 1), 2);
        Edge.due("spot 1 first", x.taken(1, 1), 0);
        Edge.due("spot 2 then", x.taken(2, 1), 1);
        Edge.due("spot 0 last", x.taken(0, 1), 2);
        // x by 0.9, y by 0.7776, z by 0.864.
        isPlace(x, 0, 0, 0, 26);
        isPlace(x, 1, 18, 0, 0);
        isPlace(x, 2, 0, 39, 0);
    }

    // ---- promise 14

    /** The turn by stars twice as long as the spots: places are x by 2, y by 8, z by 4; a star behind them. */
    private static StarTracker shrunk(int a, int b, int c) {
        StarTracker x = Edge.with(Edge.star(2, 0, 0), Edge.star(0, 2, 0), Edge.star(0, 0, 2),
            Edge.spot(1, 0, 0), Edge.spot(0, 1, 0), Edge.spot(0, 0, 1));
        x.set(Edge.TOLERANCE, 6);
        x.add(0, a, b, c);
        Edge.due("only the first three vote", x.count(4), 18);
        return x;
    }

    @Edge.Says("x, y, z each the whole number nearest (of two, the greater) to the exact sum")
    static void placeOfTwoNearestIsTheGreater() {
        // x by 2: halves at odd numbers; far off by y and z, so that the star has no vote.
        int[][] byX = {{-100, -50}, {-99, -49}, {-5, -2}, {-3, -1}, {-2, -1}, {-1, 0}, {0, 0}, {1, 1}, {2, 1}, {3, 2}, {5, 3}, {99, 50}, {100, 50}};
        for (int[] d : byX) isPlace(shrunk(d[0], 80, -80), 3, d[1], 10, -20);
        // y by 8.
        int[][] byY = {{-100, -12}, {-99, -12}, {-97, -12}, {-92, -11}, {-20, -2}, {-13, -2}, {-12, -1}, {-11, -1}, {-5, -1}, {-4, 0},
            {-3, 0}, {3, 0}, {4, 1}, {5, 1}, {11, 1}, {12, 2}, {13, 2}, {92, 12}, {100, 13}};
        for (int[] d : byY) isPlace(shrunk(80, d[0], -80), 3, 40, d[1], -20);
        // z by 4.
        int[][] byZ = {{-100, -25}, {-99, -25}, {-98, -24}, {-97, -24}, {-7, -2}, {-6, -1}, {-5, -1}, {-3, -1}, {-2, 0}, {-1, 0},
            {1, 0}, {2, 1}, {3, 1}, {5, 1}, {6, 2}, {7, 2}, {98, 25}, {99, 25}};
        for (int[] d : byZ) isPlace(shrunk(-80, 80, d[0]), 3, -40, 10, d[1]);
    }

    @Edge.Says("to the exact sum, over the three ARMS f of v, w, and g of a, b")
    static void placeIsExactWhereItIsGreat() {
        // Arms of the spots: (100, 100, 40), (6000, -8400, 6000), (936000, -360000, -1440000).
        StarTracker x = Edge.with(Edge.star(1, 0, 0), Edge.star(0, 1, 0), Edge.star(0, 0, 1),
            Edge.spot(100, 100, 40), Edge.spot(40, 100, 100), Edge.spot(100, 40, 100));
        x.set(Edge.BUCKET, 9999);
        x.set(Edge.TOLERANCE, 9999);
        x.add(0, 100, -100, 100);
        x.add(0, -100, 100, -100);
        Edge.due("turn", x.turn(), 1);
        isPlace(x, 0, 100, 100, 40);
        isPlace(x, 3, 94210000, -36830000, -143396000);
        isPlace(x, 4, -94210000, 36830000, 143396000);
        Edge.due("too far to be confirmed", x.confirmed(1, 0), Edge.NONE);
    }

    @Edge.Says("x (what = 0), y (1), z (2) of THE PLACE of a STAR.")
    static void placeRefusesWhatIsNotThere() {
        StarTracker x = still();
        for (int v : Edge.outside(0, 2)) Edge.due("what " + v, x.place(0, v), Edge.LEAST_INT);
        for (int v : Edge.outside(0, 2)) Edge.due("star " + v, x.place(v, 0), Edge.LEAST_INT);
        for (int i = 4; i <= 12; i++) {
            x.add(0, 3, 3, i);
            isPlace(x, i - 1, 3, 3, i);
            Edge.due("the next", x.place(i, 0), Edge.LEAST_INT);
        }
        Edge.due("no finding", x.count(8), 0);
    }

    @Edge.Says("BAD, NOT (there is no TURN): the least int.")
    static void placeWithoutTurnIsTheLeastInt() {
        StarTracker x = still();
        Edge.due("a place", x.place(2, 2), 95);
        x.back(1);
        for (int i = 0; i < 3; i++) isPlace(x, i, Edge.LEAST_INT, Edge.LEAST_INT, Edge.LEAST_INT);
        Edge.due("BAD as well", x.place(3, 0), Edge.LEAST_INT);
        Edge.due("BAD as well", x.place(0, 3), Edge.LEAST_INT);
        Edge.due("nothing there", new StarTracker().place(0, 0), Edge.LEAST_INT);
        x.add(1, 10, 20, 95);
        Edge.due("the turn again", x.place(2, 2), 95);
    }

    // ---- promise 15

    @Edge.Says("no farther than NEAR (0 to 300; 20 at first)")
    static void confirmedUpToTheFirstNear() {
        StarTracker x = still(Edge.star(5, 70, -70), Edge.spot(15, 80, -70));
        isConfirmed(x, 3, 3, 20);
        x = still(Edge.star(5, 70, -70), Edge.spot(15, 80, -71));
        isConfirmed(x, 3, Edge.NONE, Edge.NONE);
        for (int[] d : new int[][] {{25, 70, -70}, {5, 90, -70}, {5, 70, -50}, {-15, 70, -70}, {5, 50, -70}, {5, 70, -90}}) {
            x = still(Edge.star(5, 70, -70), Edge.spot(d[0], d[1], d[2]));
            isConfirmed(x, 3, 3, 20);
            x.set(Edge.NEAR, 19);
            isConfirmed(x, 3, Edge.NONE, Edge.NONE);
        }
    }

    @Edge.Says("NEAR (0 to 300; 20 at first)")
    static void confirmedUpToTheLeastNear() {
        StarTracker x = still(Edge.star(5, 70, -70), Edge.spot(5, 70, -70), Edge.star(-50, -50, 5), Edge.spot(-50, -50, 6));
        x.set(Edge.NEAR, 0);
        isConfirmed(x, 3, 3, 0);
        isConfirmed(x, 4, Edge.NONE, Edge.NONE);
        x.set(Edge.NEAR, 1);
        isConfirmed(x, 4, 4, 1);
    }

    @Edge.Says("NEAR (0 to 300; 20 at first)")
    static void confirmedUpToTheGreatestNear() {
        StarTracker x = still(Edge.star(100, 100, 100), Edge.spot(50, -50, 0));
        x.set(Edge.NEAR, 300);
        isConfirmed(x, 3, 3, 300);
        x.set(Edge.NEAR, 299);
        isConfirmed(x, 3, Edge.NONE, Edge.NONE);
        x = still(Edge.star(100, 100, 100), Edge.spot(50, -50, -1));
        x.set(Edge.NEAR, 300);
        isConfirmed(x, 3, Edge.NONE, Edge.NONE);
    }

    @Edge.Says("each by that STAR whose PLACE is least far (what x, y, z differ by, added)")
    static void confirmedByTheLeastFar() {
        StarTracker x = still(Edge.star(20, -20, -50), Edge.star(20, -27, -50), Edge.spot(20, -24, -50));
        isConfirmed(x, 3, 4, 3);
        x = still(Edge.star(20, -27, -50), Edge.star(20, -20, -50), Edge.spot(20, -24, -50));
        isConfirmed(x, 3, 3, 3);
        // 3, 3 and 3 are less than 10 alone, though farther by squares than some: added it is 9.
        x = still(Edge.star(30, -20, -50), Edge.star(23, -17, -47), Edge.spot(20, -20, -50));
        isConfirmed(x, 3, 4, 9);
        // 6 alone is less than 3, 3 and 3, though its square is greater.
        x = still(Edge.star(23, -17, -47), Edge.star(26, -20, -50), Edge.spot(20, -20, -50));
        isConfirmed(x, 3, 4, 6);
    }

    @Edge.Says("of like ones the least, of those that no SPOT ahead was CONFIRMED by.")
    static void confirmedByTheLeastOfLikeOnes() {
        StarTracker x = still(Edge.star(20, -20, -50), Edge.star(20, -22, -50), Edge.star(20, -21, -51),
            Edge.spot(20, -21, -50), Edge.spot(20, -21, -50), Edge.spot(20, -21, -50), Edge.spot(20, -21, -50));
        isConfirmed(x, 3, 3, 1);
        isConfirmed(x, 4, 4, 1);
        isConfirmed(x, 5, 5, 1);
        isConfirmed(x, 6, Edge.NONE, Edge.NONE);
        Edge.due("all", x.count(3), 6);
    }

    @Edge.Says("SPOTS, in order")
    static void confirmedInTheOrderOfSpots() {
        // Spot 3 is farther, but ahead.
        StarTracker x = still(Edge.star(5, 70, -70), Edge.spot(5, 70, -55), Edge.spot(5, 70, -69));
        isConfirmed(x, 3, 3, 15);
        isConfirmed(x, 4, Edge.NONE, Edge.NONE);
        // Spot 3 takes the nearer of two, spot 4 the other one.
        x = still(Edge.star(5, 70, -70), Edge.star(5, 70, -60), Edge.spot(5, 70, -66), Edge.spot(5, 70, -70));
        isConfirmed(x, 3, 3, 4);
        isConfirmed(x, 4, 4, 10);
    }

    @Edge.Says("The STAR by which a SPOT is CONFIRMED (what = 0), how far its PLACE is (1); NONE. BAD.")
    static void confirmedRefuses() {
        StarTracker x = Edge.sky();
        x.see(8, 0, 0, 0, 0, 0);
        isConfirmed(x, 7, 7, 0);
        for (int w = 0; w < 2; w++) for (int v : Edge.outside(0, 7)) Edge.due("spot " + v, x.confirmed(v, w), Edge.BAD);
        for (int v : Edge.outside(0, 1)) Edge.due("what " + v, x.confirmed(0, v), Edge.BAD);
        x.back(1);
        Edge.due("spot that was undone", x.confirmed(7, 0), Edge.BAD);
        Edge.due("no spots", Edge.sky().confirmed(0, 0), Edge.BAD);
        StarTracker none = Edge.with(Edge.spot(1, 1, 1));
        isConfirmed(none, 0, Edge.NONE, Edge.NONE);
        Edge.due("none is confirmed", none.count(3), 0);
    }

    @Edge.Says("CONFIRMED: SPOTS, in order")
    static void noneIsConfirmedWithoutTurn() {
        StarTracker x = Edge.with(Edge.star(10, 0, 0), Edge.star(20, 0, 0), Edge.star(0, 50, 0));
        x.see(3, 0, 0, 0, 0, 0);
        x.set(Edge.TOLERANCE, 0);
        x.set(Edge.NEAR, 300);
        Edge.due("no turn", x.turn(), 0);
        for (int p = 0; p < 3; p++) isConfirmed(x, p, Edge.NONE, Edge.NONE);
        Edge.due("none", x.count(3), 0);
    }

    // ---- promise 16

    @Edge.Says("WRONG, as bits.")
    static void wrongFromNoneToAll() {
        Edge.due("nothing there", new StarTracker().wrong(), 0);
        StarTracker x = Edge.sky();
        x.see(8, 3, 2, 1, 0, 0);
        Edge.due("eight are taken", x.count(2), 8);
        Edge.due("none is wrong", x.wrong(), 0);
        Edge.due("none is wrong", x.count(7), 0);
        // All in one line by unlike sides: all are taken, and there is no turn.
        int[] marks = {1, 2, 5, 10, 16, 23, 33, 35};
        for (int n = 0; n <= 8; n++) {
            StarTracker y = new StarTracker();
            for (int mark : marks) y.add(0, mark, 0, 0);
            y.see(n, 0, 0, 1, 0, 0);
            y.set(Edge.BUCKET, 1);
            y.set(Edge.TOLERANCE, 0);
            int taken = n < 3 ? 0 : n;
            Edge.due("taken", y.count(2), taken);
            Edge.due("wrong of " + n, y.wrong(), (1 << taken) - 1);
            Edge.due("wrong of " + n, y.count(7), taken);
        }
    }

    @Edge.Says("WRONG are SPOTS that are TAKEN with a STAR by which they are not CONFIRMED.")
    static void wrongIfConfirmedByAnother() {
        // Stars 3 and 4 are as far from the others, on either side; spot 3 is star 4, but star 3 is less.
        StarTracker x = Edge.with(Edge.star(50, 0, 0), Edge.star(0, 30, 0), Edge.star(-20, -10, 0),
            Edge.star(10, 5, 40), Edge.star(10, 5, -40),
            Edge.spot(50, 0, 0), Edge.spot(0, 30, 0), Edge.spot(-20, -10, 0), Edge.spot(10, 5, -40));
        x.set(Edge.TOLERANCE, 0);
        Edge.due("taken", x.taken(3, 0), 3);
        isConfirmed(x, 3, 4, 0);
        Edge.due("wrong", x.wrong(), 8);
        Edge.due("wrong", x.count(7), 1);
    }

    @Edge.Says("WRONG are SPOTS that are TAKEN with a STAR by which they are not CONFIRMED.")
    static void wrongOnlyIfTaken() {
        StarTracker x = still(Edge.star(5, 70, -70), Edge.spot(5, 70, -69), Edge.spot(-77, -77, -77));
        Edge.due("spot 3 is not taken", x.taken(3, 0), Edge.NONE);
        isConfirmed(x, 3, 3, 1);
        Edge.due("spot 4 is not taken", x.taken(4, 0), Edge.NONE);
        isConfirmed(x, 4, Edge.NONE, Edge.NONE);
        Edge.due("none is wrong", x.wrong(), 0);
    }

    // ---- promise 17

    /** Stars with sides 2; the spots' sides differ from it by as much as told, no less and no more, but none by more. */
    private static StarTracker differing(int by) {
        for (int a = -32; a <= 32; a++)
            for (int b = -32; b <= 32; b++)
                for (int c = 0; c <= 32; c++) {
                    int one = (a - 1) * (a - 1) + b * b + c * c, other = a * a + (b - 1) * (b - 1) + c * c;
                    if (Math.max(Math.abs(one - 2), Math.abs(other - 2)) != by || a == 0 && b == 0 && c == 0) continue;
                    StarTracker x = Edge.with(Edge.star(1, 0, 0), Edge.star(0, 1, 0), Edge.star(0, 0, 1),
                        Edge.spot(1, 0, 0), Edge.spot(0, 1, 0), Edge.spot(a, b, c));
                    x.set(Edge.BUCKET, 9999);
                    x.set(Edge.NEAR, 300);
                    return x;
                }
        Edge.fail("no such spot: " + by);
        return new StarTracker();
    }

    @Edge.Says("BETTER: TOLERANCE 0, 50, 100 .. 1000, in place of what it is, by which most are CONFIRMED")
    static void betterGoesBy50From0To1000() {
        int[][] due = {{0, 0}, {1, 50}, {2, 50}, {48, 50}, {49, 50}, {50, 50}, {51, 100}, {99, 100}, {100, 100}, {102, 150}, {450, 450},
            {451, 500}, {948, 950}, {950, 950}, {951, 1000}, {999, 1000}, {1000, 1000}};
        for (int[] d : due) {
            StarTracker x = differing(d[0]);
            Edge.due("by " + d[0], x.better(0), d[1]);
            Edge.due("by " + d[0], x.better(1), 3);
            x.set(Edge.TOLERANCE, d[0]);
            Edge.due("confirmed by it", x.count(3), 3);
            if (d[0] > 0) x.set(Edge.TOLERANCE, d[0] - 1);
            Edge.due("confirmed by one less", x.count(3), d[0] > 0 ? 0 : 3);
        }
        for (int by : new int[] {1001, 1049, 1100}) {
            StarTracker x = differing(by);
            x.set(Edge.TOLERANCE, by);
            Edge.due("confirmed by " + by, x.count(3), 3);
            Edge.due("but that is above 1000", x.better(1), 0);
            Edge.due("of like ones the least", x.better(0), 0);
        }
    }

    @Edge.Says("in place of what it is")
    static void betterDoesNotHangOnTolerance() {
        StarTracker x = differing(88);
        for (int tolerance : new int[] {0, 87, 88, 200, 9999}) {
            x.set(Edge.TOLERANCE, tolerance);
            Edge.due("by " + tolerance, x.better(0), 100);
            Edge.due("by " + tolerance, x.better(1), 3);
            Edge.due("TOLERANCE stays", x.count(5), tolerance);
            Edge.due("what is confirmed stays", x.count(3), tolerance < 88 ? 0 : 3);
        }
    }

    @Edge.Says("by which most are CONFIRMED, of like ones the least.")
    static void betterOfLikeOnesIsTheLeast() {
        StarTracker x = Edge.sky();
        x.see(8, 0, 1, 0, 0, 0);
        Edge.due("all by 0", x.better(0), 0);
        Edge.due("all by 0", x.better(1), 8);
        x.set(Edge.LEAST, 99);
        Edge.due("none by any", x.better(0), 0);
        Edge.due("none by any", x.better(1), 0);
        // By 0 there is one match, by 50 another one more, and two votes are the least.
        x = Edge.with(Edge.star(1, 1, 1), Edge.star(11, 1, 1), Edge.star(1, 21, 1), Edge.star(1, 21, 2));
        x.see(3, 0, 0, 0, 0, 0);
        x.set(Edge.LEAST, 2);
        Edge.due("most by 50", x.better(0), 50);
        Edge.due("most by 50", x.better(1), 3);
    }

    /** Sides 900, 1600, 2500; as many stars more as told are where star n is, or so much off it by z. */
    private static StarTracker doubled(int n, int... off) {
        int[][] d = {{1, 1, 1}, {31, 1, 1}, {1, 41, 1}};
        StarTracker x = new StarTracker();
        for (int i = 0; i < 3; i++) x.add(0, d[i][0], d[i][1], d[i][2]);
        for (int z : off) x.add(0, d[n][0], d[n][1], d[n][2] + z);
        return x;
    }

    @Edge.Says("in place of what it is, by which most are CONFIRMED")
    static void betterCountsAllMatchesUpToATolerance() {
        // Two votes by 0; a third one by the square of what is told.
        int[][] due = {{1, 50}, {7, 50}, {8, 100}, {10, 100}, {11, 150}, {14, 200}, {15, 250}};
        for (int[] d : due) {
            StarTracker x = doubled(2, 0, d[0]);
            x.see(3, 0, 0, 0, 0, 0);
            x.set(Edge.BUCKET, 9999);
            x.set(Edge.LEAST, 3);
            x.set(Edge.TOLERANCE, 0);
            Edge.due("two by 0", x.votes(0, 0), 2);
            Edge.due("which", x.better(0), d[1]);
            Edge.due("how many", x.better(1), 3);
        }
    }

    @Edge.Says("in place of what it is, by which most are CONFIRMED")
    static void betterHasVotesOfEachSpot() {
        // Star n is there twice: its spot has one vote for each, the two others have two, and two are the least.
        for (int n = 0; n < 3; n++) {
            StarTracker x = doubled(n, 0);
            x.see(3, 0, 0, 0, 0, 0);
            x.set(Edge.LEAST, 2);
            x.set(Edge.TOLERANCE, 0);
            Edge.due("two pairs", x.count(2), 2);
            Edge.due("which", x.better(0), 0);
            Edge.due("how many", x.better(1), 3);
        }
    }

    @Edge.Says("BETTER: TOLERANCE 0, 50, 100 .. 1000, in place of what it is, by which most are CONFIRMED, of like ones the least.")
    static void betterIsAskedAnew() {
        StarTracker x = Edge.with(Edge.star(1, 1, 1), Edge.star(11, 1, 1), Edge.star(1, 21, 1));
        x.see(3, 0, 0, 0, 0, 0);
        Edge.due("all by 0", x.better(0), 0);
        Edge.due("all by 0", x.better(1), 3);
        x.back(1);
        x.add(1, 90, 90, 90);
        Edge.due("no match is left over", x.better(0), 0);
        Edge.due("no match is left over", x.better(1), 0);
        x.back(1);
        x.add(1, 1, 21, 1);
        Edge.due("all by 0 again", x.better(1), 3);
    }

    @Edge.Says("BETTER: which TOLERANCE (what = 0), how many are CONFIRMED then (1). BAD.")
    static void betterOfNothing() {
        for (StarTracker x : new StarTracker[] {new StarTracker(), Edge.sky(), Edge.with(Edge.spot(1, 2, 3))}) {
            Edge.due("which", x.better(0), 0);
            Edge.due("how many", x.better(1), 0);
            for (int v : Edge.outside(0, 1)) Edge.due("what " + v, x.better(v), Edge.BAD);
        }
    }

    // ---- promise 18

    @Edge.Says("how many of the others are CONFIRMED (1); NONE: there are no SPOTS. BAD.")
    static void spareOfNoSpotsIsNone() {
        for (StarTracker x : new StarTracker[] {new StarTracker(), Edge.sky()}) {
            Edge.due("which", x.spare(0), Edge.NONE);
            Edge.due("how many", x.spare(1), Edge.NONE);
            for (int v : Edge.outside(0, 1)) Edge.due("what " + v, x.spare(v), Edge.BAD);
            x.add(1, 1, 2, 3);
            Edge.due("which of one", x.spare(0), 0);
            Edge.due("how many of none", x.spare(1), 0);
            for (int v : Edge.outside(0, 1)) Edge.due("what " + v, x.spare(v), Edge.BAD);
            x.back(1);
            Edge.due("which of none again", x.spare(0), Edge.NONE);
        }
    }

    @Edge.Says("by which most of the others are CONFIRMED, of like ones the least.")
    static void spareOfLikeOnesIsTheLeast() {
        for (int n = 1; n <= 8; n++) {
            StarTracker x = Edge.sky();
            x.see(n, 0, 0, 1, 0, 0);
            x.set(Edge.TOLERANCE, 0);
            Edge.due("which of " + n, x.spare(0), 0);
            // Two others are no triangle, three are.
            Edge.due("how many of " + n, x.spare(1), n < 4 ? 0 : n - 1);
            Edge.due("the spots stay", x.count(1), n);
        }
    }

    @Edge.Says("SPARE: the SPOT that had better not be")
    static void spareIsTheOddOneWhereverItIs() {
        for (int odd = 0; odd < 8; odd++) {
            StarTracker all = Edge.sky(), x = Edge.sky();
            for (int p = 0; p < 8; p++) {
                if (p == odd) x.add(1, -7, -7, 77);
                else x.add(1, all.at(0, p, 0), all.at(0, p, 1), all.at(0, p, 2));
            }
            x.set(Edge.TOLERANCE, 0);
            Edge.due("odd " + odd, x.spare(0), odd);
            Edge.due("others than " + odd, x.spare(1), 7);
            Edge.due("confirmed with it", x.count(3), 7);
            Edge.due("it is there still", x.at(1, odd, 2), 77);
        }
    }

    @Edge.Says("by which most of the others are CONFIRMED, of like ones the least.")
    static void spareHasVotesOfEachOther() {
        for (int n = 0; n < 3; n++) {
            for (int odd = 0; odd < 4; odd++) {
                StarTracker x = doubled(n, 0);
                for (int p = 0, i = 0; p < 4; p++) {
                    if (p == odd) {
                        x.add(1, -70, -70, 70);
                        continue;
                    }
                    x.add(1, x.at(0, i, 0), x.at(0, i, 1), x.at(0, i, 2));
                    i++;
                }
                x.set(Edge.LEAST, 2);
                x.set(Edge.TOLERANCE, 0);
                Edge.due("which", x.spare(0), odd);
                Edge.due("how many", x.spare(1), 3);
            }
        }
    }

    @Edge.Says("by which most of the others are CONFIRMED, of like ones the least.")
    static void spareOfThreeLeavesNoTriangle() {
        int[][] orders = {{0, 1, 2}, {0, 2, 1}, {1, 0, 2}, {1, 2, 0}, {2, 0, 1}, {2, 1, 0}};
        for (int[] o : orders) {
            StarTracker x = doubled(0);
            for (int i : o) x.add(1, x.at(0, i, 0), x.at(0, i, 1), x.at(0, i, 2));
            x.set(Edge.TOLERANCE, 0);
            Edge.due("all three are confirmed", x.count(3), 3);
            Edge.due("which", x.spare(0), 0);
            Edge.due("how many", x.spare(1), 0);
        }
    }

    @Edge.Says("by which most of the others are CONFIRMED, of like ones the least.")
    static void spareIsByToleranceAsItIs() {
        // The triangle of the others has sides 900, 1601, 2501.
        StarTracker x = doubled(0);
        x.add(1, -70, -70, 70);
        x.add(1, 1, 1, 1);
        x.add(1, 31, 1, 1);
        x.add(1, 1, 41, 2);
        int[][] due = {{0, 0}, {1, 3}, {2, 3}, {0, 0}, {98, 3}};
        for (int[] d : due) {
            x.set(Edge.TOLERANCE, d[0]);
            Edge.due("which by " + d[0], x.spare(0), 0);
            Edge.due("how many by " + d[0], x.spare(1), d[1]);
        }
    }

    @Edge.Says("SPARE: the SPOT that had better not be, by which most of the others are CONFIRMED")
    static void spareLeavesItsStarToTheOthers() {
        // Spot 3 is confirmed by star 3 ahead of spot 4, which is that star.
        StarTracker x = still(Edge.star(5, 70, -70), Edge.spot(5, 70, -60), Edge.spot(5, 70, -70));
        isConfirmed(x, 3, 3, 10);
        isConfirmed(x, 4, Edge.NONE, Edge.NONE);
        Edge.due("which", x.spare(0), 3);
        Edge.due("how many", x.spare(1), 4);
        isConfirmed(x, 3, 3, 10);
    }
}
