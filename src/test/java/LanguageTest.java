import java.io.IOException;
import java.lang.reflect.Field;
import java.lang.reflect.Method;
import java.lang.reflect.Modifier;
import java.nio.file.Files;
import java.nio.file.Path;
import java.util.ArrayList;
import java.util.List;
import java.util.Set;
import java.util.TreeSet;
import java.util.regex.Matcher;
import java.util.regex.Pattern;

/** The face of the document, its constants, and the rules of LANGUAGE.md that can be seen from outside. */
public final class LanguageTest {
    private static final Check CHECK = new Check("LanguageTest");

    public static void main(String[] args) throws IOException {
        String document = Files.readString(Path.of(args.length > 1 ? args[1] : "../shared/DOC.md"));
        String source = Files.readString(Path.of(args.length > 0 ? args[0] : "src/main/java/RainShelves.java"));
        String face = document.substring(document.indexOf("## The public face"), document.indexOf("## Terms"));
        face(face);
        constants(face);
        headings(document, source);
        members();
        source(source);
        CHECK.end();
    }

    private static void face(String face) {
        Set<String> due = new TreeSet<>();
        Matcher told = Pattern.compile("public (int|long) (\\w+)\\(([^)]*)\\);").matcher(face);
        while (told.find()) {
            due.add(told.group(1) + " " + told.group(2) + "(" + told.group(3).replaceAll("int \\w+", "int").replace(", ", ",") + ")");
        }
        CHECK.due("methods that the document's face has", due.size(), 27);
        Set<String> there = new TreeSet<>();
        for (Method m : RainShelves.class.getDeclaredMethods()) {
            if (Modifier.isPrivate(m.getModifiers())) continue;
            StringBuilder s = new StringBuilder();
            for (Class<?> c : m.getParameterTypes()) s.append(s.length() > 0 ? "," : "").append(c.getName());
            there.add(m.getReturnType().getName() + " " + m.getName() + "(" + s + ")");
            CHECK.due(m + " is public and no static one", m.getModifiers(), Modifier.PUBLIC);
        }
        CHECK.due("the face is " + there + ", the document's " + due, there.equals(due) ? 1 : 0, 1);
        CHECK.due("the class", RainShelves.class.getModifiers(), Modifier.PUBLIC | Modifier.FINAL);
        CHECK.due("constructors", RainShelves.class.getDeclaredConstructors().length, 1);
        CHECK.due("public constructors", RainShelves.class.getConstructors().length, 1);
        CHECK.due("its parameters", RainShelves.class.getConstructors()[0].getParameterCount(), 0);
    }

    private static void constants(String face) {
        CHECK.due("BAD", RainShelves.BAD, -1);
        CHECK.due("STATE", RainShelves.STATE, -2);
        CHECK.due("FULL", RainShelves.FULL, -3);
        CHECK.due("NONE", RainShelves.NONE, -9);
        CHECK.due("NO", RainShelves.NO, -1000000);
        int told = 0;
        Matcher m = Pattern.compile("(\\w+) = (-?\\d+)").matcher(face);
        while (m.find()) {
            told++;
            CHECK.due("the document's " + m.group(1), constant(m.group(1)), Long.parseLong(m.group(2)));
        }
        CHECK.due("public fields", RainShelves.class.getFields().length, told);
    }

    private static long constant(String name) {
        try {
            Field f = RainShelves.class.getField(name);
            CHECK.due(name + " is a constant", f.getModifiers(), Modifier.PUBLIC | Modifier.STATIC | Modifier.FINAL);
            return f.getInt(null);
        } catch (ReflectiveOperationException e) {
            System.out.println("LanguageTest: " + e);
            return Long.MIN_VALUE;
        }
    }

    /** 'Ahead of the calls .. the interface says': the class has its calls in that order, under those words. */
    private static void headings(String document, String source) {
        Matcher ahead = Pattern.compile("Ahead of the calls? ([^:]*) the interface says: (---- .*)\\.\\n").matcher(document);
        int place = 0, calls = 0;
        while (ahead.find()) {
            int heading = source.indexOf("// " + ahead.group(2) + "\n", place);
            CHECK.due("'" + ahead.group(2) + "' is there", heading >= place ? 1 : 0, 1);
            place = Math.max(place, heading);
            Matcher call = Pattern.compile("`(\\w+)`").matcher(ahead.group(1));
            while (call.find()) {
                calls++;
                Matcher head = Pattern.compile("public (int|long) " + call.group(1) + "\\(").matcher(source);
                boolean found = head.find(place);
                CHECK.due(call.group(1) + " is under '" + ahead.group(2) + "', in order", found ? 1 : 0, 1);
                place = found ? head.start() : place;
            }
        }
        CHECK.due("calls under headings", calls, 27);
    }

    private static void members() {
        List<Class<?>> classes = new ArrayList<>(List.of(RainShelves.class.getDeclaredClasses()));
        CHECK.due("at most twelve classes", classes.size() < 12 ? 1 : 0, 1);
        for (Class<?> c : classes) {
            CHECK.due(c + " is static", Modifier.isStatic(c.getModifiers()) ? 1 : 0, 1);
        }
        classes.add(RainShelves.class);
        Set<String> face = new TreeSet<>();
        for (Method m : RainShelves.class.getMethods()) face.add(m.getName());
        for (Class<?> c : classes) {
            int fields = 0;
            for (Field f : c.getDeclaredFields()) {
                int bits = f.getModifiers();
                fields += Modifier.isStatic(bits) ? 0 : 1;
                CHECK.due(f + " is no static one, or final", Modifier.isStatic(bits) && !Modifier.isFinal(bits) ? 1 : 0, 0);
            }
            CHECK.due(c + " has at most twenty fields", fields <= 20 ? 1 : 0, 1);
            for (Method m : c.getDeclaredMethods()) {
                CHECK.due(m + " has at most seven parameters", m.getParameterCount() <= 7 ? 1 : 0, 1);
                boolean bears = Modifier.isPrivate(m.getModifiers()) && face.contains(m.getName());
                CHECK.due(m + " bears the name of a public one", bears ? 1 : 0, 0);
            }
        }
    }

    private static void none(String source, String pattern) {
        Matcher m = Pattern.compile(pattern).matcher(source);
        CHECK.due("'" + pattern + "' in the source", m.find() ? 1 : 0, 0);
    }

    private static void source(String whole) {
        String code = whole.replaceAll("(?s)/\\*.*?\\*/", "").replaceAll("//.*", "");
        none(code, "\\b(throw|throws|try|catch|finally|synchronized|assert|import|package|volatile|native|default\\s+\\w+\\s+\\w+\\()\\b");
        none(code, "->|::|\\bstatic\\s*\\{|Exact\\b|\\bObject\\b|\\bSystem\\b|\\bThread\\b|\\bprotected\\b");
        none(code, "\\b(equals|hashCode|toString)\\s*\\(");
        none(code, "[^\\x09\\x0a\\x20-\\x7e]");
        Matcher m = Pattern.compile("\\b(Math|Integer|Long)\\.(\\w+)").matcher(code);
        Set<String> known = Set.of("min", "max", "abs", "bitCount", "compare", "floorDiv", "floorMod");
        while (m.find()) CHECK.due(m.group() + " is in the list", known.contains(m.group(2)) ? 1 : 0, 1);
        methodLengths(code);
    }

    /** A method ends at the first brace that stands as far in as its head. */
    private static void methodLengths(String code) {
        Matcher m = Pattern.compile("(?ms)^( +)(private|public) [^=;{]*\\)\\s*\\{\\n.*?^\\1\\}").matcher(code);
        int methods = 0;
        while (m.find()) {
            methods++;
            String[] lines = m.group().split("\n");
            String head = lines[0].trim();
            CHECK.due("sixty lines at most: " + head, lines.length <= 60 ? 1 : 0, 1);
            // All runs share one room for objects: only constructors, whose heads have no type, may make any.
            boolean constructs = head.matches("(public|private) \\w+\\(.*");
            CHECK.due("makes an object: " + head, !constructs && m.group().matches("(?s).*\\bnew\\b.*") ? 1 : 0, 0);
        }
        CHECK.due("methods were found", methods > 28 ? 1 : 0, 1);
    }
}
