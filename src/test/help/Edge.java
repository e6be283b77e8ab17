import java.lang.annotation.Retention;
import java.lang.annotation.RetentionPolicy;

/** Marks the test of a sentence of the document, or of a part of one, that names a boundary case. */
@Retention(RetentionPolicy.RUNTIME)
@interface Edge {
    /** How the heading of the sentence begins. */
    String in();

    String says();
}
