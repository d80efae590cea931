import java.lang.annotation.Retention;
import java.lang.annotation.RetentionPolicy;

/** The words of the document whose boundary a test looks at. */
@Retention(RetentionPolicy.RUNTIME)
@interface Edge {
    /** The promise that the words stand under; 0: the Terms, or what stands ahead of them. */
    int promise();

    String words();
}
