import java.io.IOException;
import java.nio.file.Files;
import java.nio.file.Path;
import java.util.LinkedHashMap;
import java.util.Map;
import java.util.regex.Matcher;
import java.util.regex.Pattern;

/** The sentences of the document that tests stand for: each one has to stand there, in its place. */
final class Sentences {
    private static final Path DOCUMENT = Path.of("../shared/DOC.md");
    private static final Map<String, String> PLACES = new LinkedHashMap<>();
    private static final Map<String, boolean[]> TESTED = new LinkedHashMap<>();
    private static String latest = "";
    private static int checksAhead = 0;
    private static int many = 0;

    private Sentences() { }

    static void open() throws IOException {
        for (String part : Files.readString(DOCUMENT).split("\n## ")) {
            int end = part.indexOf('\n');
            String name = part.substring(0, end).replaceAll(":.*", "");
            String words = plain(part.substring(end));
            PLACES.put(name, words);
            TESTED.put(name, new boolean[words.length()]);
        }
    }

    private static String plain(String words) {
        return words.replaceAll("\\s+", " ");
    }

    /** The checks from here on are those of a sentence of the document, or of a part of one. */
    static void of(String place, String words) {
        needChecks();
        latest = place + ", \"" + words + "\"";
        Check.under(latest);
        int at = PLACES.getOrDefault(place, "").indexOf(plain(words));
        Check.due("it stands in the document", at >= 0);
        for (int i = 0; at >= 0 && i < plain(words).length(); i++) {
            TESTED.get(place)[at + i] = true;
        }
        checksAhead = Check.many();
        many++;
    }

    /** What stands in a place from some words up to others. */
    static String upTo(String place, String from, String to) {
        String words = PLACES.getOrDefault(place, "");
        int begin = words.indexOf(from);
        return begin < 0 ? "" : words.substring(begin, words.indexOf(to, begin) + to.length());
    }

    private static void needChecks() {
        Check.due("there is a test of it", latest.isEmpty() || Check.many() > checksAhead);
    }

    /** A sentence that has a number in it names a bound, so no number may stand outside of those that are tested. */
    static void close() {
        needChecks();
        Check.under("");
        for (Map.Entry<String, String> place : PLACES.entrySet()) {
            boolean binds = place.getKey().equals("Terms") || place.getKey().startsWith("Promise");
            Matcher number = Pattern.compile("(?<!==== )\\d+|NONE|at most|at least").matcher(place.getValue());
            while (binds && number.find()) {
                int from = Math.max(0, number.start() - 30);
                int to = Math.min(place.getValue().length(), number.end() + 30);
                Check.due(place.getKey() + " is tested at \".." + place.getValue().substring(from, to) + "..\"",
                        TESTED.get(place.getKey())[number.start()]);
            }
        }
        System.out.println(many + " sentences of the document");
    }
}
