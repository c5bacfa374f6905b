import java.lang.annotation.Retention;
import java.lang.annotation.RetentionPolicy;

/** Which sentences of the document a test holds: it would fail if one of them were broken. */
@Retention(RetentionPolicy.RUNTIME)
@interface Holds {
    /** The heading of the section, for a promise without its name: "Promise 2". */
    String in();

    /** Words of these sentences, just as the document writes them. */
    String[] words();
}
