import java.lang.annotation.Retention;
import java.lang.annotation.RetentionPolicy;

/** The words of the document that would be told broken by a test; they stand under the number that its name bears. */
@Retention(RetentionPolicy.RUNTIME)
@interface Says {
    String[] value();
}
