import java.lang.reflect.Method;
import java.util.Arrays;
import java.util.List;

/** Each refusal of each call, on an object that has nothing, some, or all that it can have: its answer, and that it changes nothing. */
public final class RefusalEdgeTest {
    private static final Edge.State NOTHING = StarTracker::new;
    private static final Edge.State SOME = RefusalEdgeTest::some;
    private static final Edge.State ALL = RefusalEdgeTest::all;
    private static final List<Edge.State> STATES = List.of(NOTHING, SOME, ALL);

    public static void main(String[] args) throws Exception {
        Edge.run(RefusalEdgeTest.class);
    }

    /** Sheet 0 bytes, 1 shorts, 2 ints, 3 LOST; tray 3 empty; the latest finding SIZE; no setting as at first. */
    private static StarTracker some() {
        StarTracker x = Edge.sky();
        x.back(0);
        x.see(5, 1, 0, 2, 3, 1);
        x.add(1, -9, 8, -7);
        x.set(Edge.BUCKET, 300);
        x.set(Edge.TOLERANCE, 500);
        x.set(Edge.LEAST, 2);
        x.set(Edge.NEAR, 15);
        x.put(0, 0, 1);
        x.put(0, 0, 2);
        x.put(1, 1, 0);
        x.put(2, 1, 3);
        x.put(2, 0, 4);
        for (int s = 0; s < 3; s++) {
            x.sheet(s, s, 5 + s);
            for (int i = 0; i < 5 + s; i++) x.lay(s, s, i, 10 * s + i + 1);
        }
        x.sheet(3, 0, -1);
        return x;
    }

    /** 12 stars, 8 spots, trays full, a sheet of 60 items; the latest finding NULL. */
    private static StarTracker all() {
        StarTracker x = Edge.sky();
        for (int i = 8; i < 12; i++) x.add(0, 7 * i, -3 * i, 99 - i);
        x.see(8, 0, 3, 1, 0, 0);
        for (int t = 0; t < 4; t++) for (int n = 0; n < 8; n++) x.put(t, t == 1 ? 1 : t == 0 ? 0 : n % 2, n);
        x.sheet(0, Edge.INTS, 60);
        x.lay(0, Edge.INTS, 59, Edge.LEAST_INT);
        x.lay(0, Edge.INTS, 0, 12);
        x.sheet(2, Edge.BYTES, 0);
        x.lose(3);
        return x;
    }

    private static void bad(String what, Edge.Call call) {
        for (Edge.State state : STATES) Edge.refused(what, state, call, Edge.BAD);
    }

    private static void leastInt(String what, Edge.Call call) {
        for (Edge.State state : STATES) Edge.refusedByLeastInt(what, state, call, 0);
    }

    @Edge.Says("They change nothing (FINDINGS but count() 8).")
    static void addRefused() {
        for (int v : Edge.outside(0, 1)) bad("kind " + v, x -> x.add(v, 1, 1, 1));
        for (int kind = 0; kind < 2; kind++) {
            int k = kind;
            bad("all 0", x -> x.add(k, 0, 0, 0));
            for (int v : Edge.outside(-100, 100)) {
                bad("x " + v, x -> x.add(k, v, 1, 1));
                bad("y " + v, x -> x.add(k, 1, v, 1));
                bad("z " + v, x -> x.add(k, 1, 1, v));
            }
            Edge.refused("FULL", ALL, x -> x.add(k, 1, 2, 3), Edge.FULL);
        }
    }

    @Edge.Says("They change nothing (FINDINGS but count() 8).")
    static void backAndAtRefused() {
        for (int v : Edge.outside(0, 1)) bad("back kind " + v, x -> x.back(v));
        Edge.refused("no star", NOTHING, x -> x.back(0), Edge.NOT);
        Edge.refused("no spot", NOTHING, x -> x.back(1), Edge.NOT);
        for (int v : Edge.outside(0, 1)) leastInt("at kind " + v, x -> x.at(v, 0, 0));
        for (int v : Edge.outside(0, 11)) leastInt("at star " + v, x -> x.at(0, v, 0));
        for (int v : Edge.outside(0, 7)) leastInt("at spot " + v, x -> x.at(1, v, 0));
        for (int v : Edge.outside(0, 2)) leastInt("at what " + v, x -> x.at(0, 0, v));
    }

    @Edge.Says("They change nothing (FINDINGS but count() 8).")
    static void readRefused() {
        for (int v : Edge.outside(0, 1)) {
            bad("kind " + v, x -> x.read(v, 0));
            bad("kind " + v + ", LOST", x -> x.read(v, 3));
        }
        for (int v : Edge.outside(0, 3)) bad("sheet " + v, x -> x.read(0, v));
        for (Edge.State state : STATES) for (int kind = 0; kind < 2; kind++) {
            int k = kind;
            Edge.refused("LOST", state, x -> x.read(k, 3), Edge.NULL);
        }
    }

    @Edge.Says("They change nothing (FINDINGS but count() 8).")
    static void seeRefused() {
        for (int v : Edge.outside(0, 8)) bad("n " + v, x -> x.see(v, 1, 1, 1, 1, 1));
        Edge.refused("more than none", NOTHING, x -> x.see(1, 1, 1, 1, 1, 1), Edge.BAD);
        Edge.refused("more than 7", SOME, x -> x.see(8, 1, 1, 1, 1, 1), Edge.BAD);
        for (int v : Edge.outside(0, 3)) {
            bad("a " + v, x -> x.see(0, v, 1, 1, 1, 1));
            bad("b " + v, x -> x.see(0, 1, v, 1, 1, 1));
            bad("c " + v, x -> x.see(0, 1, 1, v, 1, 1));
            bad("m " + v, x -> x.see(0, 1, 1, 1, 1, v));
        }
    }

    @Edge.Says("They change nothing (FINDINGS but count() 8).")
    static void setRefused() {
        for (int v : Edge.outside(0, 3)) bad("what " + v, x -> x.set(v, 50));
        int[] lowest = {1, 0, 1, 0}, highest = {9999, 9999, 99, 300};
        for (int what = 0; what < 4; what++) {
            int w = what;
            for (int v : Edge.outside(lowest[w], highest[w])) bad("setting " + w + " to " + v, x -> x.set(w, v));
        }
    }

    @Edge.Says("They change nothing (FINDINGS but count() 8).")
    static void sideKeyLooksVotesTakenRefused() {
        for (int v : Edge.outside(0, 1)) {
            bad("side kind " + v, x -> x.side(v, 0, 0));
            bad("key kind " + v, x -> x.key(v, 0, 1, 2, 0));
            bad("taken what " + v, x -> x.taken(0, v));
        }
        for (int v : Edge.outside(0, 11)) {
            bad("side i " + v, x -> x.side(0, v, 0));
            bad("side j " + v, x -> x.side(0, 0, v));
            bad("key a " + v, x -> x.key(0, v, 1, 2, 0));
            bad("key b " + v, x -> x.key(0, 0, v, 2, 0));
            bad("key c " + v, x -> x.key(0, 0, 1, v, 0));
            bad("votes star " + v, x -> x.votes(0, v));
        }
        for (int v : Edge.outside(0, 7)) {
            bad("votes spot " + v, x -> x.votes(v, 0));
            bad("taken spot " + v, x -> x.taken(v, 0));
        }
        for (int v : Edge.outside(0, 2)) bad("key k " + v, x -> x.key(0, 0, 1, 2, v));
        bad("key alike", x -> x.key(0, 1, 1, 2, 0));
        for (int v : Edge.outside(0, 3)) bad("looks " + v, x -> x.looks(v));
    }

    @Edge.Says("where the answer may be any number, BAD, NOT are the least int.")
    static void placeConfirmedBetterSpareRefused() {
        for (int v : Edge.outside(0, 11)) leastInt("place of star " + v, x -> x.place(v, 0));
        for (int v : Edge.outside(0, 2)) leastInt("place what " + v, x -> x.place(0, v));
        Edge.refusedByLeastInt("no turn", () -> Edge.with(Edge.star(1, 2, 3)), x -> x.place(0, 0), 0);
        for (int v : Edge.outside(0, 7)) bad("confirmed spot " + v, x -> x.confirmed(v, 0));
        for (int v : Edge.outside(0, 1)) {
            bad("confirmed what " + v, x -> x.confirmed(0, v));
            bad("better " + v, x -> x.better(v));
            bad("spare " + v, x -> x.spare(v));
        }
    }

    @Edge.Says("They change nothing (FINDINGS but count() 8).")
    static void putRefused() {
        for (int v : Edge.outside(0, 3)) bad("tray " + v, x -> x.put(v, 0, 0));
        for (int v : Edge.outside(0, 1)) bad("kind " + v, x -> x.put(2, v, 0));
        for (int v : Edge.outside(0, 11)) bad("star " + v, x -> x.put(0, 0, v));
        for (int v : Edge.outside(0, 7)) bad("spot " + v, x -> x.put(0, 1, v));
        Edge.refused("STORE", SOME, x -> x.put(0, 1, 0), Edge.STORE);
        Edge.refused("STORE", SOME, x -> x.put(1, 0, 0), Edge.STORE);
        for (int tray = 0; tray < 4; tray++) for (int kind = 0; kind < 2; kind++) {
            int t = tray, k = kind;
            Edge.refused("FULL", ALL, x -> x.put(t, k, 0), Edge.FULL);
        }
    }

    @Edge.Says("They change nothing (FINDINGS but count() 8).")
    static void forkTakeThingShareRefused() {
        for (int v : Edge.outside(0, 3)) {
            bad("fork a " + v, x -> x.fork(v, 1));
            bad("fork b " + v, x -> x.fork(1, v));
            bad("take " + v, x -> x.take(v));
            leastInt("thing of tray " + v, x -> x.thing(v, 0, 0));
            leastInt("thing what " + v, x -> x.thing(0, 0, v));
            leastInt("share of tray " + v, x -> x.share(v, 0, 0));
        }
        for (int v : Edge.outside(0, 7)) {
            leastInt("thing " + v, x -> x.thing(0, v, 0));
            leastInt("share of i " + v, x -> x.share(0, v, 0));
            leastInt("share of j " + v, x -> x.share(0, 0, v));
        }
        for (int tray = 0; tray < 4; tray++) {
            int t = tray;
            Edge.refused("take of an empty one", NOTHING, x -> x.take(t), Edge.NOT);
        }
        Edge.refused("take of an empty one", SOME, x -> x.take(3), Edge.NOT);
    }

    @Edge.Says("FINDINGS (answers -10 less the number; they change nothing but count() 8)")
    static void sheetAndLoseRefused() {
        for (int v : Edge.outside(0, 3)) {
            bad("sheet " + v, x -> x.sheet(v, 0, 5));
            bad("lose " + v, x -> x.lose(v));
        }
        for (int v : Edge.outside(0, 2)) bad("form " + v, x -> x.sheet(0, v, 5));
        for (int v : new int[] {61, Edge.GREATEST_INT}) bad("items " + v, x -> x.sheet(0, 0, v));
        for (Edge.State state : STATES) {
            for (int v : new int[] {-1, Edge.LEAST_INT}) Edge.refused("items " + v, state, x -> x.sheet(0, 0, v), Edge.SIZE);
            Edge.refused("lose", state, x -> x.lose(3), Edge.NULL);
        }
    }

    @Edge.Says("FINDINGS (answers -10 less the number; they change nothing but count() 8)")
    static void layAndGetRefused() {
        for (int v : Edge.outside(0, 3)) {
            bad("lay sheet " + v, x -> x.lay(v, 0, 0, 9));
            leastInt("get sheet " + v, x -> x.get(v, 0, 0));
        }
        for (int v : Edge.outside(0, 2)) {
            bad("lay form " + v, x -> x.lay(0, v, 0, 9));
            leastInt("get form " + v, x -> x.get(0, v, 0));
        }
        for (Edge.State state : STATES) {
            Edge.refused("lay", state, x -> x.lay(3, 0, 0, 9), Edge.NULL);
            Edge.refusedByLeastInt("get", state, x -> x.get(3, 0, 0), Edge.NULL);
        }
        for (Edge.State state : List.of(SOME, ALL)) {
            Edge.refused("lay", state, x -> x.lay(0, 1, 0, 9), Edge.CAST);
            Edge.refusedByLeastInt("get", state, x -> x.get(0, 1, 0), Edge.CAST);
        }
        for (int v : Edge.outside(0, 4)) {
            Edge.refused("lay item " + v, SOME, x -> x.lay(0, 0, v, 9), Edge.INDEX);
            Edge.refusedByLeastInt("get item " + v, SOME, x -> x.get(0, 0, v), Edge.INDEX);
        }
        for (int v : Edge.outside(0, 59)) {
            Edge.refused("lay item " + v, ALL, x -> x.lay(0, 2, v, 9), Edge.INDEX);
            Edge.refusedByLeastInt("get item " + v, ALL, x -> x.get(0, 2, v), Edge.INDEX);
        }
        Edge.refused("lay item of none", ALL, x -> x.lay(2, 0, 0, 9), Edge.INDEX);
        Edge.refusedByLeastInt("get item of none", ALL, x -> x.get(2, 0, 0), Edge.INDEX);
    }

    @Edge.Says("FINDINGS (answers -10 less the number; they change nothing but count() 8)")
    static void copyAndWriteAndCountRefused() {
        for (int v : Edge.outside(0, 3)) {
            bad("copy s " + v, x -> x.copy(v, 0, 0, 0, 1));
            bad("copy t " + v, x -> x.copy(0, 0, v, 0, 1));
            bad("write " + v, x -> x.write(v));
        }
        for (Edge.State state : STATES) {
            Edge.refused("copy from LOST", state, x -> x.copy(3, 0, 0, 0, 1), Edge.NULL);
            Edge.refused("copy to LOST", state, x -> x.copy(0, 0, 3, 0, 1), Edge.NULL);
            Edge.refused("write to LOST", state, x -> x.write(3), Edge.NULL);
        }
        Edge.refused("copy to another form", SOME, x -> x.copy(0, 0, 1, 0, 1), Edge.STORE);
        Edge.refused("copy to another form", ALL, x -> x.copy(0, 0, 2, 0, 0), Edge.STORE);
        for (int v : new int[] {-1, 6, Edge.LEAST_INT, Edge.GREATEST_INT}) {
            Edge.refused("copy i " + v, SOME, x -> x.copy(0, v, 0, 0, 1), Edge.INDEX);
            Edge.refused("copy j " + v, SOME, x -> x.copy(0, 0, 0, v, 1), Edge.INDEX);
            Edge.refused("copy n " + v, SOME, x -> x.copy(0, 0, 0, 0, v), Edge.INDEX);
        }
        Edge.refused("copy of one behind the end", SOME, x -> x.copy(0, 1, 0, 0, 5), Edge.INDEX);
        Edge.refused("copy to one behind the end", SOME, x -> x.copy(0, 0, 0, 1, 5), Edge.INDEX);
        for (int v : Edge.outside(0, 8)) bad("count " + v, x -> x.count(v));
    }

    @Edge.Says("FINDINGS (answers -10 less the number; they change nothing but count() 8): 1 NULL: the SHEET is LOST; 2 INDEX: there is no such item; 3 CAST: it has another FORM; 4 STORE: unlike FORMS")
    static void findingsAnswerByTheirNumbers() {
        StarTracker x = some();
        Edge.due("NULL", x.lose(3), -11);
        Edge.due("INDEX", x.lay(0, 0, 5, 1), -12);
        Edge.due("CAST", x.lay(0, 1, 0, 1), -13);
        Edge.due("STORE", x.copy(0, 0, 1, 0, 1), -14);
        Edge.due("STORE of a tray", x.put(0, 1, 0), -14);
        Edge.due("SIZE", x.sheet(0, 0, -1), -15);
    }

    private static final int[] ANY = {Edge.LEAST_INT, -1, 0, 1, 2, 3, 8, 12, 59, Edge.GREATEST_INT};

    @Edge.Says("Refusals, the first that fits, in the order told at each act: BAD -2 (a number not as told, no such thing)")
    static void everyCallAnswersWhateverItIsAsked() throws Exception {
        for (Edge.State state : STATES) {
            for (Method m : StarTracker.class.getDeclaredMethods()) {
                if (!java.lang.reflect.Modifier.isPublic(m.getModifiers())) continue;
                int n = m.getParameterCount(), all = 1;
                for (int i = 0; i < n; i++) all *= ANY.length;
                StarTracker x = state.make();
                // Steps that share no divisor with 10, so that each place of long lists of arguments has all numbers.
                int step = all <= 10000 ? 1 : 37, called = 0;
                for (int at = 0; at < all; at += step) {
                    if (called++ % 300 == 299) x = state.make();
                    Object[] args = new Object[n];
                    for (int i = 0, rest = at; i < n; i++, rest /= ANY.length) args[i] = ANY[rest % ANY.length];
                    try {
                        m.invoke(x, args);
                    } catch (java.lang.reflect.InvocationTargetException e) {
                        Edge.fail(m.getName() + Arrays.toString(args) + " threw " + e.getCause());
                    }
                }
            }
        }
    }
}
