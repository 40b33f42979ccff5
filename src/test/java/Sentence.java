import java.lang.annotation.ElementType;
import java.lang.annotation.Retention;
import java.lang.annotation.RetentionPolicy;
import java.lang.annotation.Target;

/** Marks a test of one sentence of the document; SentenceTest runs it, and checks that the sentence stands there. */
@Retention(RetentionPolicy.RUNTIME)
@Target(ElementType.METHOD)
@interface Sentence {
    /** The heading under which the sentence stands; of "Promise 2: feed" only "Promise 2". */
    String of();

    /** The words of the sentence, or of the part of it, that the test is about. */
    String says();
}
