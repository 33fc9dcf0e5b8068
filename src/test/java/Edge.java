import java.lang.annotation.ElementType;
import java.lang.annotation.Retention;
import java.lang.annotation.RetentionPolicy;
import java.lang.annotation.Target;

/**
 * A sentence of ../shared/DOC.md that names a boundary, on the one test that holds the program to it:
 * its promise ("Terms 1" .. "Terms 4" for the parts of "Terms"), a colon, and the document's words.
 */
@Retention(RetentionPolicy.RUNTIME)
@Target(ElementType.METHOD)
@interface Edge {
    String value();
}
