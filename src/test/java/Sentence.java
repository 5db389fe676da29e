import java.lang.annotation.ElementType;
import java.lang.annotation.Retention;
import java.lang.annotation.RetentionPolicy;
import java.lang.annotation.Target;

/**
 * The words of the document that a test holds, and the promise by which they are seen. The test's
 * name begins with the same number. SentenceTest looks whether the words stand in the document.
 */
@Retention(RetentionPolicy.RUNTIME)
@Target(ElementType.METHOD)
@interface Sentence {
    int promise();

    String says();

    /** Whether the words stand ahead of the numbered promises, and not under the promise itself. */
    boolean ahead() default false;
}
