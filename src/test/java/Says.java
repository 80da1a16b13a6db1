import java.lang.annotation.ElementType;
import java.lang.annotation.Retention;
import java.lang.annotation.RetentionPolicy;
import java.lang.annotation.Target;

/** A test of one sentence of the document, which names a boundary case. */
@Retention(RetentionPolicy.RUNTIME)
@Target(ElementType.METHOD)
public @interface Says {
    /** The promise in which the sentence stands; 0 for those that stand ahead of the first promise. */
    int promise();

    /** The sentence, or the part of it that names the case, word by word. */
    String sentence();
}
