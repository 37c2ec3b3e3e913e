import java.lang.reflect.Method;

/** Each promise of the document, 1 to 46, has tests of its edges. */
public final class EdgeListTest {
    private static final Class<?>[] ALL = {EdgeTextTest.class, EdgeStateTest.class, EdgeActTest.class,
        EdgePastTest.class, EdgeSightTest.class, EdgeStripTest.class, EdgeFindTest.class};

    public static void main(String[] args) {
        Checks checks = new Checks("EdgeListTest");
        int[] tests = new int[47];
        for (Class<?> of : ALL) {
            for (Method method : of.getDeclaredMethods()) {
                if (Edges.isTest(method)) {
                    int promise = Edges.promiseOf(method);
                    boolean known = promise >= 1 && promise <= 46;
                    checks.same(method.getName() + " names a promise", known, true);
                    tests[known ? promise : 0]++;
                }
            }
        }
        for (int promise = 1; promise <= 46; promise++) {
            checks.same("promise " + promise + " has a test of its edges", tests[promise] > 0, true);
        }
        checks.end();
    }
}
