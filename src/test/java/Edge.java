import java.util.List;
import java.util.function.Consumer;

/**
 * A test of one boundary case.
 *
 * @param where the place in the document: "Terms", "Terms, section 1", "Promise 2: feed"
 * @param words the words of the sentence there that it holds
 * @param what what is tried
 * @param test asks the calls and says which answers are due
 * @param breaks ways to break the sentence in the source; the test must fail by each of them
 */
record Edge(String where, String words, String what, Consumer<Check> test, List<Break> breaks) {
    String name() {
        return where + ", \"" + words + "\": " + what;
    }

    /** Runs the test; what is thrown in it counts as an answer that is not as due. */
    Check run(boolean quiet) {
        Check check = new Check(name(), quiet);
        try {
            test.accept(check);
        } catch (RuntimeException thrown) {
            check.miss("threw " + thrown);
        }
        return check;
    }
}
