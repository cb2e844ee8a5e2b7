import java.lang.annotation.ElementType;
import java.lang.annotation.Retention;
import java.lang.annotation.RetentionPolicy;
import java.lang.annotation.Target;

/** Which sentence of the document a test stands for. */
@Retention(RetentionPolicy.RUNTIME)
@Target(ElementType.METHOD)
@interface Sentence {
    /** The promises by whose calls the sentence is seen. */
    int[] promise();

    /** The document's own words: BoundaryTest looks for them there. */
    String says();
}
