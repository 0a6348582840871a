import java.lang.annotation.Retention;
import java.lang.annotation.RetentionPolicy;

/** The sentence of ../shared/DOC.md that a test holds, word by word, so that it is found again. */
@Retention(RetentionPolicy.RUNTIME)
@interface Sentence {
    /** What the section's heading begins with: "What it is", "Terms", "Promise 5". */
    String in();

    String says();
}
