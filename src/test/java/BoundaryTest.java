import java.io.IOException;
import java.lang.reflect.InvocationTargetException;
import java.lang.reflect.Method;
import java.util.ArrayList;
import java.util.Arrays;
import java.util.Comparator;
import java.util.List;

/**
 * Runs the tests of all sentences of the document that name a boundary case: every method with the
 * annotation Sentence in the parts below. Each such sentence must have a test of its own.
 */
public final class BoundaryTest {
    private static final Class<?>[] PARTS = {BoundariesOfTexts.class, BoundariesOfGrammar.class, BoundariesOfState.class,
        BoundariesOfCycles.class, BoundariesOfInstructions.class, BoundariesOfOperations.class,
        BoundariesOfForecasts.class, BoundariesOfQueries.class};

    public static void main(String[] args) throws IOException {
        Document document = Document.read();
        List<Sentence> tested = new ArrayList<>();
        for (Class<?> part : PARTS) {
            Method[] methods = part.getDeclaredMethods();
            Arrays.sort(methods, Comparator.comparing(Method::getName));
            for (Method method : methods) {
                Sentence sentence = method.getAnnotation(Sentence.class);
                if (sentence != null) {
                    tested.add(sentence);
                    run(method, sentence, document);
                }
            }
        }
        Checks.about("");
        everySentenceHasATest(document, tested);
        everyPromiseHasATest(tested);
        System.out.println(tested.size() + " tests of sentences");
        Checks.finish("BoundaryTest");
    }

    private static void run(Method method, Sentence sentence, Document document) {
        Checks.about(sentence.of() + ", '" + sentence.says() + "' (" + method.getName() + "): ");
        Checks.due("the document says so", document.says(sentence.of(), sentence.says()), true);
        int before = Checks.checked();
        try {
            method.invoke(null);
        } catch (InvocationTargetException e) {
            Checks.due("the test ended with " + e.getCause(), 1, 0);
        } catch (IllegalAccessException e) {
            Checks.due("the test can be called: " + e, 1, 0);
        }
        Checks.due("the test checks something", Checks.checked() > before, true);
    }

    private static void everySentenceHasATest(Document document, List<Sentence> tested) {
        for (String[] sentence : document.boundarySentences()) {
            boolean found = false;
            for (Sentence test : tested) {
                boolean same = test.says().contains(sentence[1]) || sentence[1].contains(test.says());
                found |= test.of().equals(sentence[0]) && same;
            }
            Checks.due("a test of " + sentence[0] + ", '" + sentence[1] + "'", found, true);
        }
    }

    private static void everyPromiseHasATest(List<Sentence> tested) {
        for (int promise = 1; promise <= 46; promise++) {
            String heading = "Promise " + promise;
            Checks.due("a test of " + heading, tested.stream().anyMatch(test -> test.of().equals(heading)), true);
        }
    }
}
