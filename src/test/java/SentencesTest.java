import java.io.IOException;
import java.lang.reflect.Method;
import java.nio.file.Files;
import java.nio.file.Path;
import java.util.ArrayList;
import java.util.List;
import java.util.Map;
import java.util.Set;
import java.util.TreeMap;

/** Holds the edges' tests against the document: what they quote stands there, and no sentence of it is left out. */
public final class SentencesTest {
    private static final Class<?>[] TESTS = {TermsEdgesTest.class, InstrumentsEdgesTest.class,
        CalibrationsEdgesTest.class, TrustEdgesTest.class, DriftEdgesTest.class, RecallsEdgesTest.class,
        BenchEdgesTest.class};
    /** Sentences that introduce or leave free, and so name no case. */
    private static final Set<String> WITHOUT_A_CASE = Set.of(
        "Instruments are told, calibrated and used to measure, days pass; dues, drifts, limits and recalls are asked.");

    /** The sentences of the document by promise; 0 for 'What it is' and 'Terms'. */
    private static Map<Integer, List<String>> sentences(List<String> lines) {
        Map<Integer, List<String>> all = new TreeMap<>();
        int promise = -1;
        for (String line : lines) {
            if (line.startsWith("## ")) {
                promise = promiseOf(line);
            } else if (promise >= 0 && !line.isBlank() && !line.startsWith("Ahead of the calls ")) {
                List<String> here = all.computeIfAbsent(promise, key -> new ArrayList<>());
                for (String sentence : withoutSignature(line).split("(?<=\\.) (?=[A-Z])")) here.add(sentence);
            }
        }
        return all;
    }

    private static int promiseOf(String heading) {
        if (heading.startsWith("## Promise ")) {
            return Integer.parseInt(heading.substring(11, heading.indexOf(':')));
        }
        return heading.equals("## What it is") || heading.equals("## Terms") ? 0 : -1;
    }

    private static String withoutSignature(String line) {
        return line.replaceFirst("^(- |[0-9]\\. )", "").replaceFirst("^`[a-z]+ .*\\)( throws .*)?`: ", "");
    }

    private static boolean quotes(Method test, int promise, String sentence) {
        Says says = test.getAnnotation(Says.class);
        return says.promise() == promise && (sentence.contains(says.value()) || says.value().contains(sentence));
    }

    public static void main(String[] args) throws IOException {
        Checks checks = new Checks("SentencesTest");
        List<String> lines = Files.readAllLines(Path.of("../shared/DOC.md"));
        Map<Integer, List<String>> sentences = sentences(lines);
        List<Method> tests = new ArrayList<>();
        for (Class<?> each : TESTS) tests.addAll(Edges.testsOf(each));

        checks.due("promises", sentences.keySet().size(), 27);
        int promise = -1;
        Map<Integer, StringBuilder> texts = new TreeMap<>();
        for (String line : lines) {
            if (line.startsWith("## ")) promise = promiseOf(line);
            else texts.computeIfAbsent(promise, key -> new StringBuilder()).append(line).append('\n');
        }
        for (Method test : tests) {
            Says says = test.getAnnotation(Says.class);
            boolean there = texts.containsKey(says.promise()) && texts.get(says.promise()).indexOf(says.value()) >= 0;
            checks.due(test.getName() + " quotes promise " + says.promise() + ": " + says.value(), there, true);
        }
        sentences.forEach((number, all) -> {
            for (String sentence : all) {
                boolean quoted = WITHOUT_A_CASE.contains(sentence)
                        || tests.stream().anyMatch(test -> quotes(test, number, sentence));
                checks.due("a test quotes promise " + number + ": " + sentence, quoted, true);
            }
        });
        checks.end();
    }
}
