import java.io.IOException;
import java.lang.reflect.Method;
import java.nio.file.Files;
import java.nio.file.Path;
import java.util.ArrayList;
import java.util.Arrays;
import java.util.LinkedHashMap;
import java.util.List;
import java.util.Map;
import java.util.stream.Collectors;
import java.util.stream.Stream;

/**
 * The tests that hold a sentence each, held against the document: each sentence stands there, word by word,
 * and no word of a section that has promises is without a test.
 */
public final class BoundsIndexTest {
    private static final Path DOCUMENT = Path.of("../shared/DOC.md");
    private static final Path TESTS = Path.of("src/test/java");
    private static final List<Class<?>> CLASSES = Arrays.asList(BoundsRefusalsTest.class, BoundsChildrenTest.class,
            BoundsYearsTest.class, BoundsReckoningTest.class, BoundsLawsTest.class, BoundsPromises1Test.class,
            BoundsPromises2Test.class);
    /** Words that name no case of their own: no call names its refusals in another order, the rest are headings. */
    private static final String[] NO_CASE = {"where a call names them in another order, in that.", "======== 1",
        "======== 2", "======== 3", "======== 4", "The constants: `UNKNOWN = -1, OUTSIDE = -2, STATE = -3, FULL = -4, "
        + "NO = -5, NONE = -6`:", "`GONE = -1000000000000000000L`:",
        "Ahead of the calls `child`, `leave`, `law`, `purse`, `offer`, `witness`, `say`, `wipe`, `fault` the interface "
        + "says: ---- 1 children, parishes, the law.",
        "Ahead of the calls `judge`, `behind`, `holds`, `wrong`, `done`, `saints`, `lacks` the interface says: "
        + "---- 2 years.",
        "Ahead of the calls `odds`, `back`, `fewest`, `day`, `rivals`, `share` the interface says: ---- 3 odds, backing, "
        + "witnesses, days.",
        "Ahead of the calls `seen`, `forget`, `laws`, `ask`, `book`, `image`, `restore`, `told` the interface says: "
        + "---- 4 laws from lives."};
    private static final Checks c = new Checks();

    public static void main(String[] args) throws IOException {
        everyClassIsListed();
        if (Files.exists(DOCUMENT)) {
            Map<String, String> sections = sections();
            everySentenceStands(sections);
            everyWordIsHeld(sections);
        } else {
            System.out.println(DOCUMENT + " is not here: sentences are not looked up");
        }
        c.end();
    }

    private static void everyClassIsListed() throws IOException {
        try (Stream<Path> files = Files.list(TESTS)) {
            List<String> names = files.map(f -> f.getFileName().toString().replace(".java", ""))
                    .filter(n -> n.matches("Bounds.*Test") && !n.equals("BoundsIndexTest"))
                    .sorted().collect(Collectors.toList());
            List<String> listed = CLASSES.stream().map(Class::getName).sorted().collect(Collectors.toList());
            c.due("listed are " + listed + " of " + names, listed.equals(names) ? 1 : 0, 1);
        }
    }

    /** Heading to text, each in one line, without the marks of a text block. */
    private static Map<String, String> sections() throws IOException {
        Map<String, String> all = new LinkedHashMap<>();
        for (String section : Files.readString(DOCUMENT).split("\n## ")) {
            String[] parts = section.split("\n", 2);
            String text = parts.length < 2 ? "" : parts[1].replaceAll("```\\w*", " ").replaceAll("\\s+", " ").trim();
            all.put(parts[0].trim(), text);
        }
        return all;
    }

    private static List<Sentence> sentences() {
        List<Sentence> all = new ArrayList<>();
        for (Class<?> tests : CLASSES) {
            for (Method test : Sentences.of(tests)) {
                all.add(test.getAnnotation(Sentence.class));
            }
        }
        return all;
    }

    private static boolean isIn(Sentence sentence, String heading) {
        return heading.equals(sentence.in()) || heading.startsWith(sentence.in() + ":");
    }

    private static void everySentenceStands(Map<String, String> sections) {
        for (Sentence sentence : sentences()) {
            long places = sections.entrySet().stream()
                    .filter(s -> isIn(sentence, s.getKey()) && s.getValue().contains(sentence.says())).count();
            c.due("'" + sentence.says() + "' stands in " + sentence.in(), places, 1);
        }
    }

    private static void everyWordIsHeld(Map<String, String> sections) {
        int promises = 0;
        for (Map.Entry<String, String> section : sections.entrySet()) {
            boolean ofPromise = section.getKey().startsWith("Promise ");
            promises += ofPromise ? 1 : 0;
            if (ofPromise || section.getKey().equals("Terms")) {
                // A promise's own text is behind its call's face.
                String text = section.getValue().replaceFirst("^`[^`]*`: ", "");
                c.due("no test holds: " + without(text, section.getKey()), without(text, section.getKey()).length(), 0);
            }
        }
        c.due("promises in the document", promises, 31);
    }

    /** What is left of a section's words when all sentences with a test are taken out. */
    private static String without(String text, String heading) {
        boolean[] held = new boolean[text.length()];
        for (Sentence sentence : sentences()) {
            if (isIn(sentence, heading)) {
                mark(held, text, sentence.says());
            }
        }
        for (String noCase : NO_CASE) {
            mark(held, text, noCase);
        }
        StringBuilder left = new StringBuilder();
        int from = 0;
        for (int i = 0; i <= text.length(); i++) {
            if (i == text.length() || held[i]) {
                String stretch = text.substring(from, i);
                // Signs between two sentences are no words.
                left.append(stretch.chars().anyMatch(Character::isLetterOrDigit) ? stretch + " | " : "");
                from = i + 1;
            }
        }
        return left.toString();
    }

    private static void mark(boolean[] held, String text, String says) {
        for (int at = text.indexOf(says); at >= 0; at = text.indexOf(says, at + 1)) {
            Arrays.fill(held, at, at + says.length(), true);
        }
    }
}
