import java.lang.reflect.Method;
import java.lang.reflect.Modifier;
import java.nio.file.Files;
import java.nio.file.Path;
import java.util.Set;
import java.util.TreeSet;
import java.util.regex.Matcher;
import java.util.regex.Pattern;

/** README.md is held to what the class does: the answers behind its calls, and the calls of its tables. */
public final class ReadmeTest {
    private static final Pattern CALL = Pattern.compile("(?m)^t\\.(\\w+)\\(([^)]*)\\);\\s+// (-?\\d+)$");
    private static final Pattern ROW = Pattern.compile("(?m)^\\| `(\\w+)\\(([^)]*)\\)` \\| ");
    private static final Pattern REFUSAL = Pattern.compile("(?m)^\\| (-\\d+) \\| `StarTracker\\.(\\w+)` \\| ");
    private static int wrong = 0;

    private static void due(String what, Object got, Object want) {
        if (got.equals(want)) return;
        wrong++;
        System.out.println(what + ": " + got + ", due is " + want);
    }

    public static void main(String[] args) throws Exception {
        String page = Files.readString(Path.of("README.md"));
        examples(page);
        tables(page);
        refusals(page);
        System.out.println(wrong == 0 ? "README.md is as the class is" : wrong + " are not as due");
        if (wrong != 0) System.exit(1);
    }

    private static Method method(String name) {
        for (Method m : StarTracker.class.getDeclaredMethods())
            if (m.getName().equals(name) && Modifier.isPublic(m.getModifiers())) return m;
        throw new IllegalArgumentException("there is no call " + name);
    }

    private static Object[] numbers(String text) {
        if (text.isEmpty()) return new Object[0];
        String[] parts = text.split(", ");
        Object[] all = new Object[parts.length];
        for (int i = 0; i < parts.length; i++) all[i] = Integer.valueOf(parts[i]);
        return all;
    }

    /** All on one object, as the page goes on. */
    private static void examples(String page) throws Exception {
        StarTracker t = new StarTracker();
        Matcher call = CALL.matcher(page);
        int ran = 0, told = page.split("\nt\\.", -1).length - 1;
        for (; call.find(); ran++) {
            Object got = method(call.group(1)).invoke(t, numbers(call.group(2)));
            due(call.group(), ((Number) got).longValue(), Long.valueOf(call.group(3)));
        }
        due("calls with an answer behind them", ran, told);
        due("whether there are any", ran > 0, true);
    }

    private static void tables(String page) {
        Set<String> face = new TreeSet<>(), rows = new TreeSet<>();
        for (Method m : StarTracker.class.getDeclaredMethods())
            if (Modifier.isPublic(m.getModifiers())) face.add(m.getName() + " " + m.getParameterCount());
        Matcher row = ROW.matcher(page);
        while (row.find()) rows.add(row.group(1) + " " + (row.group(2).isEmpty() ? 0 : row.group(2).split(", ").length));
        due("the calls of the tables", rows, face);
    }

    private static void refusals(String page) throws Exception {
        Set<String> names = new TreeSet<>();
        Matcher row = REFUSAL.matcher(page);
        while (row.find()) {
            names.add(row.group(2));
            due(row.group(2), StarTracker.class.getField(row.group(2)).getInt(null), Integer.valueOf(row.group(1)));
        }
        due("the refusals of the table", names, new TreeSet<>(Set.of("BAD", "NOT", "FULL")));
    }
}
