import java.lang.annotation.ElementType;
import java.lang.annotation.Retention;
import java.lang.annotation.RetentionPolicy;
import java.lang.annotation.Target;

/**
 * The words of ../shared/DOC.md that a test holds to, as they stand there: in the section that the first word of the
 * test's name tells ("terms", "promise07"). SentencesTest looks them up.
 */
@Retention(RetentionPolicy.RUNTIME)
@Target(ElementType.METHOD)
@interface Sentence {
    String[] value();
}
