import java.io.IOException;
import java.lang.reflect.Method;
import java.nio.file.Files;
import java.nio.file.Path;
import java.util.ArrayList;
import java.util.HashMap;
import java.util.List;
import java.util.Map;
import java.util.regex.Matcher;
import java.util.regex.Pattern;

/**
 * Each sentence of the document that names a boundary case has a test that says it (Says), and each
 * test says what stands in the document, word by word.
 */
public final class BoundsCoverTest {
    private static final Path DOCUMENT = Path.of("..", "shared", "DOC.md");
    private static final int PROMISES = 30;
    private static final Class<?>[] TESTS = {
        BoundsOfTermsTest.class, BoundsOfPiecesTest.class, BoundsOfLicencesTest.class, BoundsOfProjectsTest.class,
        BoundsOfWouldBeTest.class,
    };

    /** By these words a sentence is known that names a boundary case. */
    private static final Pattern BOUNDARY = Pattern.compile("Throws|NONE|EMPTY|at most|at least|at first|fewer|fewest"
            + "|smallest|greatest|[Ww]ithout|with none|from none|alone|or more|itself|in place of|wraps|is cut|, cut|not cut"
            + "|for good|only if|if there is one|numbered|from 0|once|\\d to \\d|% 10|2\\^k|starts with|\\(0 |above 0"
            + "|Otherwise|how often|whether it was|nothing|Whenever|all ABOVE|exceptions apply|512 calls|so on|can CLASH"
            + "|those of which NOTICES|none of which|the same one|of its OWN");

    private static final Checks checks = new Checks();

    /** What stands under each promise; under 0, what stands ahead of the first one. */
    private static Map<Integer, String> sections() throws IOException {
        Map<Integer, String> sections = new HashMap<>();
        for (String section : Files.readString(DOCUMENT).split("(?m)^## ")) {
            Matcher promise = Pattern.compile("^Promise (\\d+):").matcher(section);
            if (promise.find()) {
                sections.merge(Integer.parseInt(promise.group(1)), section, String::concat);
            } else if (section.startsWith("What it is") || section.startsWith("Terms")) {
                sections.merge(0, section, String::concat);
            }
        }
        return sections;
    }

    /** Where in a section its tests' sentences stand, as pairs of beginning and end. */
    private static List<int[]> saidIn(String section, int promise) {
        List<int[]> said = new ArrayList<>();
        for (Class<?> tests : TESTS) {
            for (Method test : Bounds.testsOf(tests)) {
                Says says = test.getAnnotation(Says.class);
                if (says.promise() == promise) {
                    int start = section.indexOf(says.sentence());
                    checks.due(test.getName() + " says what stands under promise " + promise, start >= 0, true);
                    said.add(new int[] {start, start + says.sentence().length()});
                }
            }
        }
        return said;
    }

    private static int coverOf(String section, int promise) {
        List<int[]> said = saidIn(section, promise);
        checks.due("there are tests of promise " + promise, said.isEmpty(), false);
        int found = 0;
        int start = 0;
        for (String sentence : section.split("(?<=[.;] )|\n")) {
            int from = section.indexOf(sentence, start);
            start = from + sentence.length();
            if (BOUNDARY.matcher(sentence).find()) {
                found++;
                checks.due("promise " + promise + " is tested where it says: " + sentence, isSaid(said, from, start), true);
            }
        }
        return found;
    }

    private static boolean isSaid(List<int[]> said, int from, int to) {
        for (int[] place : said) {
            if (place[0] < to && from < place[1]) {
                return true;
            }
        }
        return false;
    }

    public static void main(String[] args) throws IOException {
        Map<Integer, String> sections = sections();
        int found = 0;
        for (int promise = 0; promise <= PROMISES; promise++) {
            checks.due("the document has promise " + promise, sections.containsKey(promise), true);
            found += coverOf(sections.getOrDefault(promise, ""), promise);
        }
        checks.due("the document has sentences that name a boundary case", found > 0, true);
        System.out.println(found + " sentences name a boundary case");
        checks.end();
    }
}
