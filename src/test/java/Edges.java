import java.io.IOException;
import java.nio.file.Files;
import java.nio.file.Path;
import java.util.ArrayList;
import java.util.LinkedHashMap;
import java.util.LinkedHashSet;
import java.util.List;
import java.util.Map;
import java.util.Set;
import java.util.regex.Matcher;
import java.util.regex.Pattern;

/**
 * The document's sentences, each with a test of its own: a test says first which words it is of.
 * The words are looked up in the document, and in the end no word of its parts may be without a test.
 */
final class Edges {
    static final String FIRST = "What it is", PANS = "Terms 1", DEEDS = "Terms 2", QUESTIONS = "Terms 3", KINDS = "Terms 4";
    static final String REFUSED = "Refused", CONSTANTS = "Constants";

    private final Check check = new Check("EdgesTest");
    private final Map<String, String> document;
    /** The document again; words that a test was of are struck out. */
    private final Map<String, String> left;
    private final Set<String> tests = new LinkedHashSet<>();
    private String sentence = "";

    Edges(Path path) throws IOException {
        document = Files.exists(path) ? parts(Files.readString(path)) : Map.of();
        left = new LinkedHashMap<>(document);
        if (document.isEmpty()) System.out.println("EdgesTest: no " + path + ", the sentences are not looked up");
    }

    private static Map<String, String> parts(String text) {
        Map<String, String> parts = new LinkedHashMap<>();
        parts.put(FIRST, between(text, "## What it is", "## The public face"));
        parts.put(PANS, between(text, "## Terms", "======== 2"));
        parts.put(DEEDS, between(text, "======== 2", "======== 3"));
        parts.put(QUESTIONS, between(text, "======== 3", "======== 4"));
        parts.put(KINDS, between(text, "======== 4", "Refused, and"));
        parts.put(REFUSED, "Refused, and " + between(text, "Refused, and", "The constants:"));
        parts.put(CONSTANTS, between(text, "The constants:", "Ahead of the calls `type`"));
        Matcher m = Pattern.compile("(?s)## Promise (\\d+):[^\\n]*\\n\\s*`[^`]*`:(.*?)(?=\\n## )").matcher(text);
        while (m.find()) parts.put("Promise " + m.group(1), plain(m.group(2)));
        return parts;
    }

    private static String between(String text, String from, String to) {
        int start = text.indexOf(from) + from.length();
        return plain(text.substring(start, text.indexOf(to, start)));
    }

    private static String plain(String text) {
        return text.replace("```text", " ").replace("```", " ").replaceAll("\\s+", " ").trim();
    }

    /** From here on answers are due by these words of that part of the document. */
    void of(String part, String words) {
        sentence = part + ": " + words;
        check.due("a test of its own: " + sentence, tests.add(sentence) ? 1 : 0, 1);
        if (document.isEmpty()) return;
        String text = document.getOrDefault(part, "");
        check.due("the document says: " + sentence, text.contains(words) ? 1 : 0, 1);
        left.put(part, left.getOrDefault(part, "").replace(words, "|"));
    }

    void of(int promise, String words) {
        of("Promise " + promise, words);
    }

    void due(String what, long got, long want) {
        check.due("[" + sentence + "] " + what, got, want);
    }

    void end() {
        System.out.println("EdgesTest: " + tests.size() + " sentences");
        for (Map.Entry<String, String> part : left.entrySet()) {
            boolean all = part.getValue().replaceAll("[|.;:,() ]", "").isEmpty();
            check.due("words without a test in " + part.getKey() + ": " + part.getValue(), all ? 0 : 1, 0);
        }
        check.end();
    }

    /**
     * Numbers that are not low .. high: just beyond, the farthest ones, and those that would come back
     * into it if a byte, a char or a shift's count were made of them.
     */
    static int[] outside(int low, int high) {
        int[] all = {low - 1, high + 1, low + 32, high + 32, low + 64, low - 256, low + 256, high + 256,
            low + 65536, high - 65536, low + (1 << 20), Integer.MIN_VALUE, Integer.MIN_VALUE + low,
            Integer.MIN_VALUE + high, Integer.MAX_VALUE, -1000000};
        List<Integer> chosen = new ArrayList<>();
        for (int n : all) {
            if ((n < low || n > high) && !chosen.contains(n)) chosen.add(n);
        }
        return chosen.stream().mapToInt(Integer::intValue).toArray();
    }

    /** A call on an object. */
    interface Call {
        long on(RainShelves x);
    }

    /** A call with one number in it that is to be tried out. */
    interface NumberCall {
        long with(int n);
    }

    /** The call is refused by BAD for whatever is not low .. high. */
    void bad(String what, int low, int high, NumberCall call) {
        for (int n : outside(low, high)) {
            due(what + " " + n, call.with(n), RainShelves.BAD);
        }
    }
}
