import java.lang.annotation.ElementType;
import java.lang.annotation.Retention;
import java.lang.annotation.RetentionPolicy;
import java.lang.annotation.Target;

/** On a test of a boundary case: the promise (or another part of the document), and the words of it that it holds. */
@Retention(RetentionPolicy.RUNTIME)
@Target(ElementType.METHOD)
@interface Boundary {

    int WHAT_IT_IS = -1;
    int TERMS = 0;

    /** The number of a promise, or one of the parts above. */
    int promise();

    String says();
}
