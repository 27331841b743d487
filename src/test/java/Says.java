import java.lang.annotation.ElementType;
import java.lang.annotation.Retention;
import java.lang.annotation.RetentionPolicy;
import java.lang.annotation.Target;

/** The words of ../shared/DOC.md to which one test holds the program; SentencesTest looks whether they stand there. */
@Retention(RetentionPolicy.RUNTIME)
@Target(ElementType.METHOD)
@interface Says {
    /** The number of the promise; 0 for the part "Terms", -1 for the part "What it is". */
    int promise() default 0;

    String[] value();
}
