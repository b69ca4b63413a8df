import java.lang.reflect.Constructor;
import java.lang.reflect.Field;
import java.lang.reflect.Method;
import java.lang.reflect.Modifier;
import java.nio.charset.StandardCharsets;
import java.nio.file.Files;
import java.nio.file.Paths;
import java.util.ArrayList;
import java.util.Arrays;
import java.util.List;
import java.util.TreeSet;

/** The public face of the document, and what of LANGUAGE.md can be seen from the class and its text. */
public final class FaceTest {
    private static final Due due = new Due("FaceTest");
    private static final String[] FACE = {
        "members(int)int", "member(int,int,int)int", "fine(int)int", "say(int)int", "wipe()int", "fault()int",
        "enact()int", "hour(int,int)int", "comes(int,int,int)int", "tends(int,int)int", "paid(int,int)int",
        "content(int)int", "choice(int,int,int,int)int", "rests(int,int)int", "laws(int,int)int",
        "move(int,int,int)int", "seen(int,int)int", "forget()int", "could(int,int)int",
        "rain(int,int,int,int,int)long", "year(int,int,int,int)int", "image(int)int", "restore(int)int",
        "told(int)int"};

    public static void main(String[] args) throws Exception {
        constants();
        face();
        for (Class<?> inside : all()) {
            classKeepsTheRules(inside);
        }
        due.holds("some twelve classes at most", all().size() <= 12);
        if (args.length > 0) {
            text(new String(Files.readAllBytes(Paths.get(args[0])), StandardCharsets.US_ASCII));
        }
        due.end();
    }

    private static List<Class<?>> all() {
        List<Class<?>> all = new ArrayList<>(Arrays.asList(LatestSets.class.getDeclaredClasses()));
        all.add(LatestSets.class);
        return all;
    }

    private static void constants() {
        due.is("NONE", LatestSets.NONE, -6);
        due.is("UNKNOWN", LatestSets.UNKNOWN, -1);
        due.is("OUTSIDE", LatestSets.OUTSIDE, -2);
        due.is("STATE", LatestSets.STATE, -3);
        due.is("FULL", LatestSets.FULL, -4);
        due.is("NO", LatestSets.NO, -5);
        due.is("LOST", LatestSets.LOST, -1000000000000000000L);
    }

    private static String told(Method m) {
        StringBuilder s = new StringBuilder(m.getName()).append('(');
        for (Class<?> p : m.getParameterTypes()) {
            s.append(s.charAt(s.length() - 1) == '(' ? "" : ",").append(p.getName());
        }
        return s.append(')').append(m.getReturnType().getName()).toString();
    }

    private static void face() {
        int mods = LatestSets.class.getModifiers();
        due.holds("public and final", Modifier.isPublic(mods) && Modifier.isFinal(mods));
        TreeSet<String> found = new TreeSet<>();
        for (Method m : LatestSets.class.getDeclaredMethods()) {
            if (Modifier.isPublic(m.getModifiers())) {
                found.add(told(m));
            } else {
                due.holds(m + " is private", Modifier.isPrivate(m.getModifiers()));
            }
        }
        due.holds("the face: " + found, found.equals(new TreeSet<>(Arrays.asList(FACE))));
        List<String> open = Arrays.asList("NONE", "UNKNOWN", "OUTSIDE", "STATE", "FULL", "NO", "LOST");
        for (Field f : LatestSets.class.getDeclaredFields()) {
            boolean right = open.contains(f.getName()) ? Modifier.isPublic(f.getModifiers())
                : Modifier.isPrivate(f.getModifiers());
            due.holds(f + " is seen as it ought to be", right);
        }
        Constructor<?>[] made = LatestSets.class.getDeclaredConstructors();
        due.holds("one constructor, of nothing", made.length == 1 && made[0].getParameterCount() == 0
            && Modifier.isPublic(made[0].getModifiers()));
    }

    private static void classKeepsTheRules(Class<?> c) {
        if (c != LatestSets.class) {
            int mods = c.getModifiers();
            due.holds(c + " is static and not public",
                Modifier.isStatic(mods) && !Modifier.isPublic(mods) && !Modifier.isProtected(mods));
        }
        int fields = 0;
        for (Field f : c.getDeclaredFields()) {
            if (Modifier.isStatic(f.getModifiers())) {
                due.holds(f + " is final", Modifier.isFinal(f.getModifiers()));
            } else {
                fields++;
            }
        }
        due.holds(c + " has some twenty fields at most", fields <= 20);
        for (Method m : c.getDeclaredMethods()) {
            due.holds(m + " takes seven at most", m.getParameterCount() <= 7);
            due.holds(m + " bears no name of the face", c == LatestSets.class && Modifier.isPublic(m.getModifiers())
                || !Arrays.toString(FACE).matches(".*\\b" + m.getName() + "\\(.*"));
        }
    }

    private static void text(String source) {
        String[] never = {"package ", "throw", "try ", "catch", "->", "::", "static {", "synchronized", "assert ",
            "Exact", "String", "instanceof", "float", "double"};
        for (String word : never) {
            due.holds("no " + word + " in the text", !source.contains(word));
        }
        for (String line : source.split("\n")) {
            due.holds("imports only Arrays: " + line,
                !line.startsWith("import ") || line.equals("import java.util.Arrays;"));
        }
        java.util.regex.Matcher used = java.util.regex.Pattern
            .compile("\\b(Arrays|System|Math|Integer|Long|String|List)\\.(\\w+)").matcher(source);
        List<String> library = Arrays.asList("Arrays.fill", "System.arraycopy", "Math.min", "Math.max", "Math.abs",
            "Integer.bitCount");
        while (used.find()) {
            due.holds(used.group() + " stands in the library's list", library.contains(used.group()));
        }
        int start = 0;
        int at = 0;
        for (String line : source.split("\n")) {
            at++;
            if (line.endsWith(") {") && !line.trim().startsWith("}") && line.matches(" {4,8}[a-zA-Z].*")) {
                start = at;
            }
            if (line.matches(" {4,8}}")) {
                due.holds("the method that ends in line " + at + " is short", at - start <= 60);
            }
        }
    }
}
