import java.lang.annotation.ElementType;
import java.lang.annotation.Retention;
import java.lang.annotation.RetentionPolicy;
import java.lang.annotation.Target;

/**
 * The sentences of the document that a test is for: it fails if one of them is broken. They stand in the section
 * of the promise that the name of the test begins with, or ahead of the promises if its name begins with "terms".
 */
@Retention(RetentionPolicy.RUNTIME)
@Target(ElementType.METHOD)
@interface Sentence {
    String[] value();
}
