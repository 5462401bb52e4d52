import java.io.IOException;
import java.lang.reflect.Method;
import java.nio.file.Files;
import java.nio.file.Paths;
import java.util.ArrayList;
import java.util.List;

/**
 * Shows, for each sentence of the document, which tests are about it, and which words that tests are about the
 * document does not say. It is no test: it shows a reader where to look, and what to write.
 */
public final class Sentences {
    private static final Class<?>[] TESTS = {FeatureEdgesTest.class, NameEdgesTest.class, CouncilEdgesTest.class,
        ShownEdgesTest.class, TableEdgesTest.class, ReadingEdgesTest.class, SignEdgesTest.class,
        ExceptionEdgesTest.class, TermEdgesTest.class};

    private Sentences() {
    }

    public static void main(String[] args) throws IOException {
        List<String> sections = sections();
        for (int promise = 0; promise < sections.size(); promise++) {
            System.out.println(promise == 0 ? "Terms" : "Promise " + promise);
            for (String sentence : sentences(sections.get(promise))) {
                System.out.println("    " + sentence);
                System.out.println("        " + testsOf(promise, sentence));
            }
        }
        System.out.println("Not in the document: " + unknown(sections));
    }

    /** What stands ahead of promise 1, and each promise, each line of them with single spaces. */
    private static List<String> sections() throws IOException {
        List<String> sections = new ArrayList<>();
        StringBuilder section = new StringBuilder();
        for (String line : Files.readAllLines(Paths.get("../shared/DOC.md"))) {
            if (line.startsWith("## Promise") || line.startsWith("## Not promised")) {
                sections.add(section.toString());
                section.setLength(0);
            } else {
                section.append(line.trim()).append('\n');
            }
        }
        return sections;
    }

    private static List<String> sentences(String section) {
        List<String> sentences = new ArrayList<>();
        for (String line : section.split("\n")) {
            for (String sentence : line.split("(?<=[.;:]) ")) {
                if (!sentence.isBlank() && !sentence.startsWith("#")) {
                    sentences.add(sentence);
                }
            }
        }
        return sentences;
    }

    private static List<Method> tests() {
        List<Method> tests = new ArrayList<>();
        for (Class<?> all : TESTS) {
            for (Method method : all.getDeclaredMethods()) {
                if (method.isAnnotationPresent(Says.class)) {
                    tests.add(method);
                }
            }
        }
        return tests;
    }

    private static List<String> testsOf(int promise, String sentence) {
        List<String> names = new ArrayList<>();
        for (Method test : tests()) {
            Says says = test.getAnnotation(Says.class);
            boolean isAbout = says.words().contains(sentence) || sentence.contains(says.words())
                || overlaps(says.words(), sentence);
            if (says.promise() == promise && isAbout) {
                names.add(test.getName());
            }
        }
        return names;
    }

    /** Whether a part of the one, ended by a sign, is in the other. */
    private static boolean overlaps(String words, String sentence) {
        for (String part : words.split("(?<=[.;:]) ")) {
            if (part.length() > 12 && (sentence.contains(part) || part.contains(sentence))) {
                return true;
            }
        }
        return false;
    }

    private static List<String> unknown(List<String> sections) {
        List<String> unknown = new ArrayList<>();
        for (Method test : tests()) {
            Says says = test.getAnnotation(Says.class);
            if (!sections.get(says.promise()).contains(says.words())) {
                unknown.add(test.getName());
            }
        }
        return unknown;
    }
}
