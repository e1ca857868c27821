package support;

import java.lang.annotation.Retention;
import java.lang.annotation.RetentionPolicy;

/** The words of the document that a test would find broken. */
@Retention(RetentionPolicy.RUNTIME)
public @interface Says {
    int promise();

    String words();
}
