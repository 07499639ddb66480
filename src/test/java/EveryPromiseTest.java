import java.lang.reflect.Method;
import java.util.HashSet;
import java.util.Set;

/** Each promise has tests of its boundary cases, which bear its number. */
public final class EveryPromiseTest extends Expect {
    private static final Class<?>[] EDGES = {ChangesEdgesTest.class, QueriesEdgesTest.class, OrdersEdgesTest.class,
        TextsEdgesTest.class, UndoEdgesTest.class};

    public static void main(String[] args) {
        Set<Integer> promises = new HashSet<>();
        for (Class<?> tests : EDGES) {
            for (Method test : testsOf(tests)) {
                promises.add(Integer.parseInt(test.getName().replaceAll("promise([0-9]+).*", "$1")));
            }
        }
        for (int promise = 1; promise <= 40; promise++) {
            due("a test of the promise " + promise, promises.contains(promise), true);
        }
        finish();
    }
}
