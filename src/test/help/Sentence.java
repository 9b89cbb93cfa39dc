import java.lang.annotation.ElementType;
import java.lang.annotation.Retention;
import java.lang.annotation.RetentionPolicy;
import java.lang.annotation.Target;

/** Marks a test with the sentence of DOC.md that it would show to be broken. */
@Retention(RetentionPolicy.RUNTIME)
@Target(ElementType.METHOD)
@interface Sentence {
    /** The section of the document, as "Terms 1" or "Promise 28". */
    String in();

    /** The sentence, or the part of it that names the boundary. */
    String says();
}
