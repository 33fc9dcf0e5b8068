import java.lang.annotation.ElementType;
import java.lang.annotation.Retention;
import java.lang.annotation.RetentionPolicy;
import java.lang.annotation.Target;

/**
 * What ../shared/DOC.md says, on the test that holds the program to it. DocumentTest looks whether the
 * words stand in the document, and whether there is a word of the document that no test bears.
 */
@Retention(RetentionPolicy.RUNTIME)
@Target(ElementType.METHOD)
@interface Says {
    /** The part ("What it is", "Terms 1" .. "Terms 4", "Promise 1" ..), a colon, and its words as they stand. */
    String[] value();

    /** In our own words: by which of all inputs, where words have several tests. */
    String by() default "";
}
