import java.io.File;
import java.lang.reflect.Method;
import java.nio.file.Files;
import java.nio.file.Path;
import java.util.Arrays;
import java.util.Map;
import java.util.TreeMap;
import java.util.regex.Matcher;
import java.util.regex.Pattern;

/** Each sentence of the document's sections "Terms" and "Promise 1" to "Promise 23" has a test that is marked with it. */
public final class SentencesTest {
    private static final Path DOCUMENT = Path.of("../shared/DOC.md");
    private static final File TESTS = new File("src/test/java");
    private static final Pattern SECTION = Pattern.compile("(Terms|Promise (\\d+): .*)");
    private static final Pattern NAME = Pattern.compile("(terms|promise\\d\\d)[A-Z].*");

    /** A section's words in one line, and which of them a test is marked with. */
    private static final class Section {
        final StringBuilder words = new StringBuilder();
        boolean[] marked = new boolean[0];

        void add(String line) {
            words.append(words.length() == 0 ? "" : " ").append(line.trim().replaceAll("\\s+", " "));
            marked = new boolean[words.length()];
        }

        boolean mark(String quote) {
            int from = words.indexOf(quote);
            for (int at = from; at >= 0; at = words.indexOf(quote, at + 1)) {
                Arrays.fill(marked, at, at + quote.length(), true);
            }
            return from >= 0;
        }

        String unmarked() {
            StringBuilder unmarked = new StringBuilder();
            for (int at = 0; at < words.length(); at++) {
                unmarked.append(marked[at] ? ' ' : words.charAt(at));
            }
            return unmarked.toString().replaceAll("[^A-Za-z0-9]+", " ").trim();
        }
    }

    public static void main(String[] args) throws Exception {
        Check.run(SentencesTest.class);
    }

    private static Map<String, Section> sections() throws Exception {
        Map<String, Section> sections = new TreeMap<>();
        Section section = null;
        for (String line : Files.readAllLines(DOCUMENT)) {
            if (line.startsWith("## ")) {
                Matcher matcher = SECTION.matcher(line.substring(3));
                section = matcher.matches() ? new Section() : null;
                if (section != null) {
                    String number = matcher.group(2);
                    sections.put(number == null ? "terms" : String.format("promise%02d", Integer.parseInt(number)), section);
                }
            } else if (section != null && !isApart(line)) {
                // The face of a method stands ahead of its first sentence.
                section.add(line.replaceFirst("^- ", "").replaceFirst("^`(int|long|LineDoubler)[^`]*`: ", ""));
            }
        }
        return sections;
    }

    private static boolean isApart(String line) {
        return line.isEmpty() || line.startsWith("###") || line.startsWith("```") || line.startsWith("Ahead of the calls");
    }

    static void eachSentenceHasATest() throws Exception {
        Map<String, Section> sections = sections();
        Check.due("sections", sections.size(), 24);
        int marks = 0;
        for (String file : TESTS.list()) {
            if (file.endsWith("Test.java")) {
                for (Method method : Class.forName(file.substring(0, file.length() - 5)).getDeclaredMethods()) {
                    marks += marksOf(method, sections);
                }
            }
        }
        Check.due("many tests are marked", marks > 200 ? 1 : 0, 1);
        for (Map.Entry<String, Section> section : sections.entrySet()) {
            Check.same("without a test in " + section.getKey(), section.getValue().unmarked(), "");
        }
    }

    private static int marksOf(Method method, Map<String, Section> sections) {
        Sentence sentence = method.getAnnotation(Sentence.class);
        if (sentence == null) {
            return 0;
        }
        Matcher name = NAME.matcher(method.getName());
        for (String quote : sentence.value()) {
            if (!name.matches() || !sections.containsKey(name.group(1)) || !sections.get(name.group(1)).mark(quote)) {
                Check.fail("not a sentence of the section that " + method.getName() + " tells: " + quote);
            }
        }
        return 1;
    }
}
