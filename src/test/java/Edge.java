import java.lang.annotation.ElementType;
import java.lang.annotation.Retention;
import java.lang.annotation.RetentionPolicy;
import java.lang.annotation.Target;
import java.lang.reflect.InvocationTargetException;
import java.lang.reflect.Method;
import java.nio.file.Files;
import java.nio.file.Path;
import java.util.Arrays;
import java.util.Comparator;
import java.util.IdentityHashMap;
import java.util.LinkedHashMap;
import java.util.Map;

/** What the tests of the document's edges share; each of them is a method that quotes the words it holds the class to. */
final class Edge {
    /** The document's own words. */
    @Retention(RetentionPolicy.RUNTIME)
    @Target(ElementType.METHOD)
    @interface Says {
        String value();
    }
    /** Makes an object anew, ever the same way. */
    interface State {
        StarTracker make();
    }
    interface Call {
        long on(StarTracker x);
    }

    static final int LEAST_INT = Integer.MIN_VALUE, GREATEST_INT = Integer.MAX_VALUE;
    static final int STAR = 0, SPOT = 1;
    static final int BUCKET = 0, TOLERANCE = 1, LEAST = 2, NEAR = 3;
    static final int BYTES = 0, SHORTS = 1, INTS = 2;
    static final int NONE = -1, BAD = -2, NOT = -3, FULL = -4;
    static final int NULL = -11, INDEX = -12, CAST = -13, STORE = -14, SIZE = -15;

    private static final Path DOC = Path.of("../shared/DOC.md");
    private static final int MOST_LINES = 60;
    private static final Map<State, Map<String, Long>> UNTOUCHED = new IdentityHashMap<>();
    private static int wrong = 0;
    private static String test = "";

    private Edge() { }

    /** Runs every method of the class that quotes the document. */
    static void run(Class<?> tests) throws Exception {
        String doc = Files.isReadable(DOC) ? Files.readString(DOC).replaceAll("\\s+", " ") : null;
        Method[] all = tests.getDeclaredMethods();
        Arrays.sort(all, Comparator.comparing(Method::getName));
        int ran = 0;
        for (Method m : all) {
            Says says = m.getAnnotation(Says.class);
            if (says == null) continue;
            ran++;
            test = m.getName() + " \"" + says.value() + "\"";
            if (doc != null && !doc.contains(says.value())) fail("these are not the document's words");
            try {
                m.invoke(null);
            } catch (InvocationTargetException e) {
                fail("threw " + e.getCause());
            }
        }
        if (ran == 0) fail("there is no test in " + tests);
        System.out.println(ran + " tests: " + (wrong == 0 ? "all hold" : wrong + " answers are not as due"));
        if (wrong != 0) System.exit(1);
    }

    static void fail(String what) {
        wrong++;
        if (wrong <= MOST_LINES) System.out.println(test + ": " + what);
    }

    static void due(String what, long got, long want) {
        if (got != want) fail(what + " answered " + got + ", due is " + want);
    }

    static void holds(String what, boolean is) {
        if (!is) fail("not so: " + what);
    }

    /** The next ones outside on either side, and ones so far off that a narrower number would take them for inside. */
    static int[] outside(int least, int greatest) {
        return new int[] {least - 1, greatest + 1, LEAST_INT, GREATEST_INT, least + 65536, least - 65536};
    }

    static int[] star(int x, int y, int z) { return new int[] {STAR, x, y, z}; }
    static int[] spot(int x, int y, int z) { return new int[] {SPOT, x, y, z}; }

    /** kind, x, y, z of each. */
    static StarTracker with(int[]... all) {
        StarTracker x = new StarTracker();
        for (int[] d : all) x.add(d[0], d[1], d[2], d[3]);
        return x;
    }

    /** Eight stars whose triangles are all unlike. */
    static StarTracker sky() {
        return with(star(100, 0, 0), star(0, 90, 10), star(10, 20, 95), star(-60, 60, 30),
            star(40, -80, 20), star(5, 70, -70), star(-33, -44, -55), star(81, 12, -47));
    }

    static void isAt(String what, StarTracker x, int kind, int i, int... d) {
        for (int w = 0; w < 3; w++) due(what + ": at(" + kind + ", " + i + ", " + w + ")", x.at(kind, i, w), d[w]);
    }

    static void items(String what, StarTracker x, int s, int form, int... want) {
        for (int i = 0; i < want.length; i++) due(what + ": item " + i, x.get(s, form, i), want[i]);
    }

    static void layAll(StarTracker x, int s, int form, int... values) {
        for (int i = 0; i < values.length; i++) x.lay(s, form, i, values[i]);
    }

    /** The call is refused by this answer, and the object is as one that was never asked; a finding is told by count(8). */
    static void refused(String what, State state, Call call, long answer) {
        StarTracker x = state.make();
        int before = x.count(8);
        due(what, call.on(x), answer);
        boolean finding = answer <= NULL && answer >= SIZE;
        due(what + ": count(8)", x.count(8), finding ? -10 - answer : before);
        unchanged(what, state, x);
    }

    /** As refused, for calls whose findings are answered by the least int. */
    static void refusedByLeastInt(String what, State state, Call call, int finding) {
        StarTracker x = state.make();
        int before = x.count(8);
        due(what, call.on(x), LEAST_INT);
        due(what + ": count(8)", x.count(8), finding == 0 ? before : -10 - finding);
        unchanged(what, state, x);
    }

    private static void unchanged(String what, State state, StarTracker x) {
        Map<String, Long> was = UNTOUCHED.computeIfAbsent(state, s -> allOf(s.make())), is = allOf(x);
        for (String name : was.keySet()) {
            Long got = is.get(name);
            if (!was.get(name).equals(got)) {
                fail(what + " changed " + name + " from " + was.get(name) + " to " + got);
                return;
            }
        }
        due(what + ": how much there is", is.size(), was.size());
    }

    /** All that can be asked of an object but count(8), by less than 400 calls; the object is of no use behind it. */
    private static Map<String, Long> allOf(StarTracker x) {
        Map<String, Long> all = new LinkedHashMap<>();
        all.put("digest", x.digest());
        for (int kind = 0; kind < 2; kind++)
            for (int i = 0; i < x.count(kind); i++)
                for (int w = 0; w < 3; w++) all.put("at " + kind + " " + i + " " + w, (long) x.at(kind, i, w));
        for (int s = 0; s < 4; s++) sheetOf(x, s, all);
        for (int w = 0; w < 4; w++) all.put("setting " + w, (long) x.set(w, 9));
        x.back(STAR);
        x.back(SPOT);
        x.add(STAR, 1, 1, 1);
        x.add(SPOT, 1, 1, 1);
        for (int t = 0; t < 4; t++) trayOf(x, t, all);
        return all;
    }

    private static void sheetOf(StarTracker x, int s, Map<String, Long> all) {
        for (int form = 0; form < 3; form++) {
            x.get(s, form, -1);
            int finding = x.count(8);
            all.put("sheet " + s + " as form " + form, (long) finding);
            if (finding != 2) continue;
            x.sheet(s, form, -1);
            for (int i = 0; i < 60; i++) {
                int item = x.get(s, form, i);
                if (item == LEAST_INT && x.count(8) == 2) break;
                all.put("sheet " + s + " item " + i, (long) item);
            }
        }
        all.put("sheet " + s + " lost", (long) x.lose(s));
    }

    private static void trayOf(StarTracker x, int t, Map<String, Long> all) {
        int size = 0;
        for (; size < 8 && x.thing(t, size, 0) != LEAST_INT; size++)
            for (int w = 0; w < 4; w++) all.put("thing " + t + " " + size + " " + w, (long) x.thing(t, size, w));
        all.put("things " + t, (long) size);
        if (size == 8) x.take(t);
        all.put("star to tray " + t, (long) x.put(t, STAR, 0));
        if (size >= 7) x.take(t);
        all.put("spot to tray " + t, (long) x.put(t, SPOT, 0));
    }
}
