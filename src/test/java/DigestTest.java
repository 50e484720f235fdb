/** Promise 29 (digest). */
public final class DigestTest {
    private static final int NONE = TitleFinder.NONE;

    private DigestTest() {
    }

    public static void main(String[] args) {
        testNewObject();
        testTitles();
        testQuery();
        testChangesNothing();
        testTextDoesNotCount();
        Checks.end();
    }

    private static long hash(int... values) {
        long hash = 163;
        for (int value : values) {
            hash = hash * 31 + value;
        }
        return hash;
    }

    private static void testNewObject() {
        TitleFinder finder = new TitleFinder();
        Checks.due("digest() of a new object", finder.digest(), hash(0, 0, NONE, 0, 0, 0, 0));
        finder.setMode(3);
        finder.setOrder(2);
        Checks.due("digest() with a mode and an order", finder.digest(), hash(0, 0, NONE, 3, 2, 0, 0));
    }

    private static void testTitles() {
        TitleFinder finder = Checks.withTitles("ab", "b c");
        Checks.due("digest() of two titles", finder.digest(),
                hash(2, 2, 1, 0, 0, 1, 0, 1, 97, 98, 3, 2, 0, 2, 1, 0, 1, 98, 32, 99, 0, 0, 0, 0, 0, 2, 0, 0, 1, 0));
        TitleFinder without = Checks.withTitles("a", "ab");
        without.setOrder(1);
        Checks.ask(without, "b");
        without.pick(0);
        Checks.due("digest() with titles without key and shortcut", without.digest(),
                hash(2, 1, 1, 0, NONE, NONE, NONE, NONE, 97, 2, 1, 1, 1, 1, 0, 1, 97, 98,
                        1, 1, 0, 1, 0, 2, 1, 0, 0, 0));
    }

    private static void testQuery() {
        TitleFinder finder = Checks.withTitles("ab", "b c");
        Checks.ask(finder, "b ");
        Checks.due("digest() with a query", finder.digest(),
                hash(2, 2, 1, 0, 0, 1, 0, 1, 97, 98, 3, 2, 0, 2, 1, 0, 1, 98, 32, 99,
                        0, 0, 0, 0, 2, 98, 32, 2, 1, 0, 0, 1));
        Checks.ask(finder, "x");
        Checks.due("digest() without results", finder.digest(),
                hash(2, 2, 1, 0, 0, 1, 0, 1, 97, 98, 3, 2, 0, 2, 1, 0, 1, 98, 32, 99,
                        0, 0, 0, 0, 3, 98, 32, 120, 0));
    }

    private static void testChangesNothing() {
        TitleFinder finder = Checks.withTitles("ab", "b c");
        Checks.ask(finder, "b");
        Checks.type(finder, "abc");
        Checks.due("digest() twice", finder.digest(), finder.digest());
        Checks.due("undo()", finder.undo(), 2);
        Checks.due("the text stays", finder.clearText(), 3);
    }

    private static void testTextDoesNotCount() {
        TitleFinder finder = Checks.withTitles("ab");
        long before = finder.digest();
        Checks.type(finder, "abc");
        Checks.due("digest() with a text", finder.digest(), before);
        finder.setMode(1);
        finder.setMode(0);
        Checks.due("digest() with saved states", finder.digest(), before);
    }
}
