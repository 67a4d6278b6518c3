import java.lang.annotation.ElementType;
import java.lang.annotation.Retention;
import java.lang.annotation.RetentionPolicy;
import java.lang.annotation.Target;

/** The sentence of ../shared/DOC.md whose boundary a test is about. */
@Retention(RetentionPolicy.RUNTIME)
@Target(ElementType.METHOD)
@interface Sentence {
    /** The promise's number; 0 for what stands ahead of the promises. */
    int promise();

    /** Word by word as the document says it. */
    String says();
}
