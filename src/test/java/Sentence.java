import java.lang.annotation.ElementType;
import java.lang.annotation.Retention;
import java.lang.annotation.RetentionPolicy;
import java.lang.annotation.Target;

/** Names the words of ../shared/DOC.md that a test holds the class to. */
@Retention(RetentionPolicy.RUNTIME)
@Target(ElementType.METHOD)
@interface Sentence {
    /** The section: "What it is", "Terms" or "Promise 7". */
    String of();

    /** Its words there, a sentence or a part of one each. */
    String[] says();
}
