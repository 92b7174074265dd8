import java.io.IOException;
import java.lang.reflect.Field;
import java.lang.reflect.Method;
import java.lang.reflect.Modifier;
import java.nio.file.Files;
import java.nio.file.Path;
import java.util.ArrayList;
import java.util.List;
import java.util.Set;
import java.util.TreeSet;
import java.util.regex.Matcher;
import java.util.regex.Pattern;

/** The face of the document, its constants, and the rules of LANGUAGE.md that can be seen from outside. */
public final class LanguageTest {
    private static final Check CHECK = new Check("LanguageTest");

    private static final String FACE = "int type(int) int clear() int house() int pan(int,int) int holds(int,int)"
        + " int now(int) int uses(int,int) int pours(int,int,int) int spring() int splits(int) int undo() int lasts(int)"
        + " int inSprings(int,int) int fire(int,int) int spoil(int) int mix(int,int,int) int levels(int,int,int)"
        + " int forget() int theft(int) int shelves() int beside(int) int odds(int,int,int) int rate(int,int)"
        + " int keep(int) int back(int) int count(int) long trace()";

    public static void main(String[] args) throws IOException {
        face();
        constants();
        members();
        source(Files.readString(Path.of(args.length > 0 ? args[0] : "src/main/java/RainShelves.java")));
        CHECK.end();
    }

    private static void face() {
        Set<String> due = new TreeSet<>(List.of(FACE.split("(?<=\\)) ")));
        Set<String> there = new TreeSet<>();
        for (Method m : RainShelves.class.getDeclaredMethods()) {
            if (Modifier.isPrivate(m.getModifiers())) continue;
            StringBuilder s = new StringBuilder();
            for (Class<?> c : m.getParameterTypes()) s.append(s.length() > 0 ? "," : "").append(c.getName());
            there.add(m.getReturnType().getName() + " " + m.getName() + "(" + s + ")");
            CHECK.due(m + " is public and no static one", m.getModifiers(), Modifier.PUBLIC);
        }
        CHECK.due("the face is " + there + ": as told", there.equals(due) ? 1 : 0, 1);
        CHECK.due("the class", RainShelves.class.getModifiers(), Modifier.PUBLIC | Modifier.FINAL);
        CHECK.due("constructors", RainShelves.class.getDeclaredConstructors().length, 1);
        CHECK.due("public constructors", RainShelves.class.getConstructors().length, 1);
    }

    private static void constants() {
        CHECK.due("BAD", RainShelves.BAD, -1);
        CHECK.due("STATE", RainShelves.STATE, -2);
        CHECK.due("FULL", RainShelves.FULL, -3);
        CHECK.due("NONE", RainShelves.NONE, -9);
        CHECK.due("NO", RainShelves.NO, -1000000);
        CHECK.due("public fields", RainShelves.class.getFields().length, 5);
    }

    private static void members() {
        List<Class<?>> classes = new ArrayList<>(List.of(RainShelves.class.getDeclaredClasses()));
        CHECK.due("at most twelve classes", classes.size() < 12 ? 1 : 0, 1);
        for (Class<?> c : classes) {
            CHECK.due(c + " is static", Modifier.isStatic(c.getModifiers()) ? 1 : 0, 1);
        }
        classes.add(RainShelves.class);
        Set<String> face = new TreeSet<>();
        for (Method m : RainShelves.class.getMethods()) face.add(m.getName());
        for (Class<?> c : classes) {
            int fields = 0;
            for (Field f : c.getDeclaredFields()) {
                int bits = f.getModifiers();
                fields += Modifier.isStatic(bits) ? 0 : 1;
                CHECK.due(f + " is no static one, or final", Modifier.isStatic(bits) && !Modifier.isFinal(bits) ? 1 : 0, 0);
            }
            CHECK.due(c + " has at most twenty fields", fields <= 20 ? 1 : 0, 1);
            for (Method m : c.getDeclaredMethods()) {
                CHECK.due(m + " has at most seven parameters", m.getParameterCount() <= 7 ? 1 : 0, 1);
                boolean bears = Modifier.isPrivate(m.getModifiers()) && face.contains(m.getName());
                CHECK.due(m + " bears the name of a public one", bears ? 1 : 0, 0);
            }
        }
    }

    private static void none(String source, String pattern) {
        Matcher m = Pattern.compile(pattern).matcher(source);
        CHECK.due("'" + pattern + "' in the source", m.find() ? 1 : 0, 0);
    }

    private static void source(String whole) {
        String code = whole.replaceAll("(?s)/\\*.*?\\*/", "").replaceAll("//.*", "");
        none(code, "\\b(throw|throws|try|catch|finally|synchronized|assert|import|package|volatile|native|default\\s+\\w+\\s+\\w+\\()\\b");
        none(code, "->|::|\\bstatic\\s*\\{|Exact\\b|\\bObject\\b|\\bSystem\\b|\\bThread\\b|\\bprotected\\b");
        none(code, "\\b(equals|hashCode|toString)\\s*\\(");
        none(code, "[^\\x09\\x0a\\x20-\\x7e]");
        Matcher m = Pattern.compile("\\b(Math|Integer|Long)\\.(\\w+)").matcher(code);
        Set<String> known = Set.of("min", "max", "abs", "bitCount", "compare", "floorDiv", "floorMod");
        while (m.find()) CHECK.due(m.group() + " is in the list", known.contains(m.group(2)) ? 1 : 0, 1);
        methodLengths(code);
    }

    /** A method ends at the first brace that stands as far in as its head. */
    private static void methodLengths(String code) {
        Matcher m = Pattern.compile("(?ms)^( +)(private|public) [^=;{]*\\)\\s*\\{\\n.*?^\\1\\}").matcher(code);
        int methods = 0;
        while (m.find()) {
            methods++;
            int lines = m.group().split("\n").length;
            CHECK.due("sixty lines at most: " + m.group().split("\n")[0].trim(), lines <= 60 ? 1 : 0, 1);
        }
        CHECK.due("methods were found", methods > 28 ? 1 : 0, 1);
    }
}
