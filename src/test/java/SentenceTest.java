import java.io.IOException;
import java.lang.reflect.InvocationTargetException;
import java.lang.reflect.Method;
import java.util.ArrayList;
import java.util.Arrays;
import java.util.Comparator;
import java.util.List;

/**
 * Runs the tests of all sentences of the document: every method with the annotation Sentence in the
 * parts below. Each sentence must have a test of its own, with the boundary cases that it names.
 */
public final class SentenceTest {
    private static final Class<?>[] PARTS = {BoundariesOfTexts.class, BoundariesOfGrammar.class, BoundariesOfState.class,
        BoundariesOfCycles.class, BoundariesOfInstructions.class, BoundariesOfOperations.class,
        BoundariesOfForecasts.class, BoundariesOfQueries.class, SentencesOfDescription.class, SentencesOfPromises.class};

    public static void main(String[] args) throws IOException {
        List<Sentence> tested = new ArrayList<>();
        for (Class<?> part : PARTS) {
            Method[] methods = part.getDeclaredMethods();
            Arrays.sort(methods, Comparator.comparing(Method::getName));
            for (Method method : methods) {
                Sentence sentence = method.getAnnotation(Sentence.class);
                if (sentence != null) {
                    tested.add(sentence);
                    run(method, sentence);
                }
            }
        }
        Checks.about("");
        everyPromiseHasATest(tested);
        if (Document.isThere()) {
            compare(Document.read(), tested);
        } else {
            System.out.println("DOC.md is not there: the sentences are not compared with it");
        }
        System.out.println(tested.size() + " tests of sentences");
        Checks.finish("SentenceTest");
    }

    private static void run(Method method, Sentence sentence) {
        Checks.about(sentence.of() + ", '" + sentence.says() + "' (" + method.getName() + "): ");
        int before = Checks.checked();
        try {
            method.invoke(null);
        } catch (InvocationTargetException e) {
            Checks.due("the test ended with " + e.getCause(), 1, 0);
        } catch (IllegalAccessException e) {
            Checks.due("the test can be called: " + e, 1, 0);
        }
        Checks.due("the test checks something", Checks.checked() > before, true);
    }

    /** The sentences of the tests stand in the document, and those of the document have tests. */
    private static void compare(Document document, List<Sentence> tested) {
        Checks.due("the quoted words", document.quotedWords().toString(), Document.QUOTED_WORDS.toString());
        for (Sentence test : tested) {
            Checks.due(test.of() + " says '" + test.says() + "'", document.says(test.of(), test.says()), true);
        }
        for (String[] sentence : document.sentences()) {
            boolean found = false;
            for (Sentence test : tested) {
                boolean same = test.says().contains(sentence[1]) || sentence[1].contains(test.says());
                found |= test.of().equals(sentence[0]) && same;
            }
            Checks.due("a test of " + sentence[0] + ", '" + sentence[1] + "'", found, true);
        }
    }

    private static void everyPromiseHasATest(List<Sentence> tested) {
        for (int promise = 1; promise <= 46; promise++) {
            String heading = "Promise " + promise;
            Checks.due("a test of " + heading, tested.stream().anyMatch(test -> test.of().equals(heading)), true);
        }
    }
}
