import java.lang.annotation.ElementType;
import java.lang.annotation.Retention;
import java.lang.annotation.RetentionPolicy;
import java.lang.annotation.Target;

/** Tells of which promise a test is, and of which of its words: the test would fail if they were broken. */
@Retention(RetentionPolicy.RUNTIME)
@Target(ElementType.METHOD)
@interface Of {
    /** The number of the promise; 0 for what the document says ahead of them. */
    int promise();

    /** Words of the document, as they stand under this promise or ahead of all promises. */
    String[] says();
}
