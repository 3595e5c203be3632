import java.lang.annotation.Retention;
import java.lang.annotation.RetentionPolicy;

/** Which sentence of the document a test is of: the heading that it stands under, and its words. */
@Retention(RetentionPolicy.RUNTIME)
@interface Says {
    String under();

    String words();
}
