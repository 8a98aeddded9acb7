import java.lang.annotation.ElementType;
import java.lang.annotation.Retention;
import java.lang.annotation.RetentionPolicy;
import java.lang.annotation.Target;

/** Which sentence of the document a test of a bound holds to, and the promise by whose calls it looks at it. */
@Retention(RetentionPolicy.RUNTIME)
@Target(ElementType.METHOD)
@interface Holds {
    /** The promise as its heading has it, such as "2: snow". */
    String promise();

    /** The document's own words, from that promise or from the 'Terms'; each must stand there. */
    String[] says();
}
