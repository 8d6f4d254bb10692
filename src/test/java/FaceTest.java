import java.lang.reflect.Constructor;
import java.lang.reflect.Field;
import java.lang.reflect.Method;
import java.lang.reflect.Modifier;
import java.nio.file.Files;
import java.nio.file.Path;
import java.util.ArrayList;
import java.util.Arrays;
import java.util.List;
import java.util.Set;
import java.util.TreeSet;
import java.util.regex.Matcher;
import java.util.regex.Pattern;

/** The public face of the document, and those rules of LANGUAGE.md that can be seen from outside or by words. */
public final class FaceTest {
    private static final String[] FACE = {
        "int add(int, int, int, int)", "int back(int)", "int at(int, int, int)", "int read(int, int)",
        "int see(int, int, int, int, int, int)", "int set(int, int)", "int side(int, int, int)",
        "int key(int, int, int, int, int)", "int looks(int)", "int votes(int, int)", "int taken(int, int)",
        "int turn()", "int place(int, int)", "int confirmed(int, int)", "int wrong()", "int better(int)",
        "int spare(int)", "int put(int, int, int)", "int fork(int, int)", "int take(int)",
        "int thing(int, int, int)", "int share(int, int, int)", "int sheet(int, int, int)", "int lose(int)",
        "int lay(int, int, int, int)", "int get(int, int, int)", "int copy(int, int, int, int, int)",
        "int write(int)", "int count(int)", "long digest()"};
    private static final String[] FORBIDDEN = {
        "throw", "throws", "try", "catch", "finally", "synchronized", "assert", "instanceof", "hashCode", "toString",
        "Object", "Float", "Double", "System.out", "Exact", "->", "::", "protected", "volatile", "native", "double"};
    private static int wrong = 0;

    private static void must(boolean holds, String what) {
        if (holds) return;
        wrong++;
        System.out.println("not so: " + what);
    }

    public static void main(String[] args) throws Exception {
        face();
        for (Class<?> c : classes()) rules(c);
        must(classes().size() <= 12, "at most twelve classes");
        words(Files.readString(Path.of("src/main/java/StarTracker.java")));
        System.out.println(wrong == 0 ? "the face and the rules are kept" : wrong + " are not kept");
        if (wrong != 0) System.exit(1);
    }

    private static List<Class<?>> classes() {
        List<Class<?>> all = new ArrayList<>(List.of(StarTracker.class));
        all.addAll(Arrays.asList(StarTracker.class.getDeclaredClasses()));
        return all;
    }

    private static String signature(Method m) {
        StringBuilder s = new StringBuilder(m.getReturnType().getName() + " " + m.getName() + "(");
        for (Class<?> p : m.getParameterTypes()) s.append(s.charAt(s.length() - 1) == '(' ? "" : ", ").append(p.getName());
        return s.append(")").toString();
    }

    private static void face() throws Exception {
        int mods = StarTracker.class.getModifiers();
        must(Modifier.isPublic(mods) && Modifier.isFinal(mods), "the class is public and final");
        Set<String> got = new TreeSet<>(), names = new TreeSet<>(), constants = new TreeSet<>();
        for (Method m : StarTracker.class.getDeclaredMethods()) {
            if (Modifier.isPrivate(m.getModifiers())) continue;
            must(Modifier.isPublic(m.getModifiers()) && !Modifier.isStatic(m.getModifiers()), m + " is public");
            got.add(signature(m));
            names.add(m.getName());
        }
        must(got.equals(new TreeSet<>(Arrays.asList(FACE))), "the methods are those of the face: " + got);
        for (Class<?> c : classes())
            for (Method m : c.getDeclaredMethods())
                must(Modifier.isPublic(m.getModifiers()) || !names.contains(m.getName()), m + " has a name of its own");
        for (Constructor<?> c : StarTracker.class.getDeclaredConstructors())
            must(Modifier.isPublic(c.getModifiers()) && c.getParameterCount() == 0, c + " is the face's");
        for (Field f : StarTracker.class.getDeclaredFields())
            if (!Modifier.isPrivate(f.getModifiers())) constants.add(f.getName() + " " + f.getInt(null));
        must(constants.equals(Set.of("NONE -1", "BAD -2", "NOT -3", "FULL -4")), "the constants: " + constants);
    }

    private static void rules(Class<?> c) {
        if (c != StarTracker.class) {
            must(Modifier.isStatic(c.getModifiers()), c + " is static");
            must(!Modifier.isPublic(c.getModifiers()) && !Modifier.isProtected(c.getModifiers()), c + " is hidden");
        }
        int own = 0;
        for (Field f : c.getDeclaredFields()) {
            if (Modifier.isStatic(f.getModifiers())) must(Modifier.isFinal(f.getModifiers()), f + " is final");
            else own++;
        }
        must(own <= 20, c + " has at most twenty fields");
        for (Method m : c.getDeclaredMethods()) must(m.getParameterCount() <= 7, m + " takes at most seven");
    }

    private static void words(String source) {
        for (int i = 0; i < source.length(); i++) must(source.charAt(i) < 128, "sign " + i + " is below 128");
        String code = source.replaceAll("(?s)/\\*.*?\\*/", "").replaceAll("//[^\n]*", "");
        for (String word : FORBIDDEN) {
            String pattern = Character.isLetter(word.charAt(0)) ? "\\b" + Pattern.quote(word) + "\\b" : Pattern.quote(word);
            must(!Pattern.compile(pattern).matcher(code).find(), "there is no " + word);
        }
        Matcher imports = Pattern.compile("import ([^;]*);").matcher(code);
        while (imports.find()) must(imports.group(1).equals("java.util.Arrays"), "no import of " + imports.group(1));
        must(!Pattern.compile("(?m)^package\\b").matcher(code).find(), "there is no package line");
        // What is made, is made with the object: no call makes more, however many come.
        for (String line : code.split("\n"))
            if (line.contains(" new ")) must(line.matches("\\s+(private final .* = new .*|this\\.parts = .*|trays\\[t\\] = .*|sheets\\[s\\] = .*)"), "made by a constructor: " + line);
    }
}
