import java.lang.annotation.ElementType;
import java.lang.annotation.Retention;
import java.lang.annotation.RetentionPolicy;
import java.lang.annotation.Target;

/** Says of a test which sentence of the document it holds. */
@Retention(RetentionPolicy.RUNTIME)
@Target(ElementType.METHOD)
@interface Holds {
    /** The heading in the document, up to its colon: "Terms", "Promise 3". */
    String at();

    /** The sentence under this heading, or the part of it that the test is about. */
    String words();
}
