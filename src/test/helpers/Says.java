import java.lang.annotation.ElementType;
import java.lang.annotation.Repeatable;
import java.lang.annotation.Retention;
import java.lang.annotation.RetentionPolicy;
import java.lang.annotation.Target;

/** Names a sentence of the document that a test holds the class against, and the heading under which it stands. */
@Retention(RetentionPolicy.RUNTIME)
@Target(ElementType.METHOD)
@Repeatable(Says.Several.class)
@interface Says {
    /** One place, or several with ", " between them; the words stand in one of them, exactly once. */
    String where();

    String words();

    @Retention(RetentionPolicy.RUNTIME)
    @Target(ElementType.METHOD)
    @interface Several {
        Says[] value();
    }
}
