/** Promise 28 (undo). */
public final class UndoTest {
    private UndoTest() {
    }

    public static void main(String[] args) {
        testNothingSaved();
        testEachUndoable();
        testRefusedCallsSaveNothing();
        testOtherCallsSaveNothing();
        testMostStates();
        testAllComesBack();
        testSavesAfterUndo();
        testTextStays();
        Checks.end();
    }

    private static void testNothingSaved() {
        TitleFinder finder = new TitleFinder();
        Checks.type(finder, "abc");
        Checks.due("undo()", finder.undo(), TitleFinder.NOT_POSSIBLE);
        Checks.due("the text stays", finder.clearText(), 3);
    }

    private static void dueUndone(String call, TitleFinder finder, long before, int left) {
        Checks.due("another digest after " + call, finder.digest() == before ? 0 : 1, 1);
        Checks.due("undo() of " + call, finder.undo(), left);
        Checks.due("digest() after undo() of " + call, finder.digest(), before);
    }

    private static void testEachUndoable() {
        TitleFinder finder = Checks.withTitles("sea", "fire");
        Checks.ask(finder, "e");
        int saved = 3;
        long before = finder.digest();
        Checks.addTitle(finder, "sea fire");
        dueUndone("add", finder, before, saved);
        finder.drop(0);
        dueUndone("drop", finder, before, saved);
        finder.setMode(1);
        dueUndone("setMode", finder, before, saved);
        finder.setOrder(1);
        dueUndone("setOrder", finder, before, saved);
        finder.ask('a');
        dueUndone("ask", finder, before, saved);
        finder.erase();
        dueUndone("erase", finder, before, saved);
        finder.pick(1);
        dueUndone("pick", finder, before, saved);
        Checks.runPlan(finder, "add x;drop 0");
        dueUndone("carryOut", finder, before, saved);
    }

    private static void testRefusedCallsSaveNothing() {
        TitleFinder finder = Checks.withTitles("sea");
        Checks.write(finder, "sea");
        long before = finder.digest();
        finder.add();
        finder.type(127);
        finder.drop(1);
        finder.setMode(4);
        finder.setOrder(3);
        finder.ask('A');
        finder.ask(' ');
        finder.erase();
        finder.pick(1);
        finder.carryOut();
        Checks.due("digest() after refused calls", finder.digest(), before);
        Checks.due("undo()", finder.undo(), 0);
        Checks.due("titles()", finder.titles(), 0);
    }

    private static void testOtherCallsSaveNothing() {
        TitleFinder finder = Checks.withTitles("sea");
        Checks.ifAdded(finder, "fire");
        finder.type('a');
        finder.clearText();
        finder.syntaxError();
        finder.titles();
        finder.character(0, 0);
        finder.of(0, 3);
        finder.common(0, 0);
        finder.closest(0);
        finder.unknown();
        finder.hardest();
        finder.mode();
        finder.order();
        finder.queryLength();
        finder.queryCharacter(0);
        finder.results();
        finder.result(0);
        finder.matchPlace(0);
        finder.digest();
        Checks.due("undo()", finder.undo(), 0);
    }

    private static void testMostStates() {
        TitleFinder finder = new TitleFinder();
        Checks.ask(finder, "abcdefgh");
        for (int left = 5; left >= 0; left--) {
            Checks.due("undo()", finder.undo(), left);
            Checks.due("queryLength()", finder.queryLength(), left + 2);
        }
        Checks.due("a seventh undo()", finder.undo(), TitleFinder.NOT_POSSIBLE);
        Checks.dueText("query", Checks.queryOf(finder), "ab");
    }

    private static void testAllComesBack() {
        TitleFinder finder = Checks.withTitles("sea fire", "fire sea");
        finder.pick(0);
        finder.setMode(2);
        finder.setOrder(1);
        Checks.runPlan(finder, "ask fire s");
        long before = finder.digest();
        Checks.runPlan(finder, "drop 0;pick 0;add new;mode part;order name;ask e");
        Checks.due("undo()", finder.undo(), 5);
        Checks.due("titles()", finder.titles(), 2);
        Checks.dueText("title 0", Checks.titleOf(finder, 0), "sea fire");
        Checks.due("uses of 0", finder.of(0, 2), 1);
        Checks.due("uses of 1", finder.of(1, 2), 0);
        Checks.due("mode()", finder.mode(), 2);
        Checks.due("order()", finder.order(), 1);
        Checks.dueText("query", Checks.queryOf(finder), "fire s");
        Checks.due("digest()", finder.digest(), before);
    }

    private static void testSavesAfterUndo() {
        TitleFinder finder = new TitleFinder();
        Checks.ask(finder, "abcdefgh");
        Checks.due("undo()", finder.undo(), 5);
        Checks.due("undo()", finder.undo(), 4);
        Checks.ask(finder, "xyz");
        Checks.dueText("query", Checks.queryOf(finder), "abcdefxyz");
        String[] want = {"abcdefxy", "abcdefx", "abcdef", "abcde", "abcd", "abc"};
        for (int i = 0; i < want.length; i++) {
            Checks.due("undo()", finder.undo(), 5 - i);
            Checks.dueText("query", Checks.queryOf(finder), want[i]);
        }
        Checks.due("undo()", finder.undo(), TitleFinder.NOT_POSSIBLE);
    }

    private static void testTextStays() {
        TitleFinder finder = new TitleFinder();
        Checks.addTitle(finder, "sea");
        Checks.type(finder, "fire");
        Checks.due("undo()", finder.undo(), 0);
        Checks.due("the text is as it was", finder.add(), 0);
        Checks.dueText("title", Checks.titleOf(finder, 0), "fire");
    }
}
