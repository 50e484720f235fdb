/** Promises 16 to 27: modes and orders, query and results. */
public final class QueryTest {
    private static final int NO_SUCH = TitleFinder.NO_SUCH;

    private QueryTest() {
    }

    public static void main(String[] args) {
        testSetMode();
        testSetOrder();
        testAskCodes();
        testAskBlanks();
        testAskLimit();
        testErase();
        testQueryCharacter();
        testEmptyQuery();
        testResultsInModes();
        testResultsInOrders();
        testOrderOfNames();
        testBlankInQuery();
        testMatchPlace();
        testResultsOfNow();
        testPick();
        testPickWithoutResults();
        Checks.end();
    }

    private static TitleFinder bands() {
        return Checks.withTitles("banana", "an", "nan a", "band an");
    }

    private static void testSetMode() {
        TitleFinder finder = new TitleFinder();
        int[] modes = {3, 1, 2, 0, 0};
        int before = 0;
        for (int mode : modes) {
            Checks.due("setMode(" + mode + ")", finder.setMode(mode), before);
            Checks.due("mode()", finder.mode(), mode);
            before = mode;
        }
        finder.setMode(2);
        int[] wrong = {-1, 4, Integer.MIN_VALUE, Integer.MAX_VALUE};
        for (int mode : wrong) {
            Checks.due("setMode(" + mode + ")", finder.setMode(mode), TitleFinder.BAD_VALUE);
        }
        Checks.due("mode() stays", finder.mode(), 2);
        Checks.due("undo()", finder.undo(), 5);
        Checks.due("mode() after undo()", finder.mode(), 0);
        Checks.due("order()", finder.order(), 0);
    }

    private static void testSetOrder() {
        TitleFinder finder = new TitleFinder();
        int[] orders = {2, 1, 0, 0};
        int before = 0;
        for (int order : orders) {
            Checks.due("setOrder(" + order + ")", finder.setOrder(order), before);
            Checks.due("order()", finder.order(), order);
            before = order;
        }
        finder.setOrder(1);
        int[] wrong = {-1, 3, Integer.MIN_VALUE, Integer.MAX_VALUE};
        for (int order : wrong) {
            Checks.due("setOrder(" + order + ")", finder.setOrder(order), TitleFinder.BAD_VALUE);
        }
        Checks.due("order() stays", finder.order(), 1);
        Checks.due("undo()", finder.undo(), 4);
        Checks.due("order() after undo()", finder.order(), 0);
        Checks.due("mode()", finder.mode(), 0);
    }

    private static void testAskCodes() {
        TitleFinder finder = new TitleFinder();
        int[] wrong = {96, 123, 47, 58, 31, 33, 65, 90, 0, -1, 65536 + 97, Integer.MIN_VALUE, Integer.MAX_VALUE};
        for (int code : wrong) {
            Checks.due("ask(" + code + ")", finder.ask(code), TitleFinder.BAD_VALUE);
        }
        Checks.due("queryLength()", finder.queryLength(), 0);
        Checks.due("undo()", finder.undo(), TitleFinder.NOT_POSSIBLE);
        int[] right = {97, 122, 48, 57, 32};
        for (int i = 0; i < right.length; i++) {
            Checks.due("ask(" + right[i] + ")", finder.ask(right[i]), 0);
            Checks.due("queryLength()", finder.queryLength(), i + 1);
            Checks.due("queryCharacter()", finder.queryCharacter(i), right[i]);
        }
        TitleFinder found = bands();
        Checks.due("ask(98)", found.ask('b'), 2);
        Checks.due("ask(97)", found.ask('a'), 2);
        Checks.due("ask(110)", found.ask('n'), 2);
        Checks.due("ask(100)", found.ask('d'), 1);
        Checks.due("ask(100)", found.ask('d'), 0);
        Checks.due("undo()", found.undo(), 5);
        Checks.due("results() after undo()", found.results(), 1);
        Checks.due("the text is not the query", found.clearText(), 0);
    }

    private static void testAskBlanks() {
        TitleFinder finder = bands();
        Checks.due("a blank first", finder.ask(' '), TitleFinder.NOT_POSSIBLE);
        Checks.due("queryLength()", finder.queryLength(), 0);
        finder.ask('d');
        Checks.due("a blank at the end does not count", finder.ask(' '), 1);
        Checks.due("queryLength() with the blank", finder.queryLength(), 2);
        Checks.due("a blank behind a blank", finder.ask(' '), TitleFinder.NOT_POSSIBLE);
        Checks.due("queryLength()", finder.queryLength(), 2);
        Checks.due("a letter behind the blank", finder.ask('a'), 1);
        Checks.due("another blank", finder.ask(' '), 1);
        Checks.due("what is no run of a title", finder.ask('b'), 0);
    }

    private static void testAskLimit() {
        TitleFinder finder = new TitleFinder();
        Checks.ask(finder, "abcdefghijklmnopqrstuvw");
        Checks.due("queryLength()", finder.queryLength(), 23);
        Checks.due("a blank as the 24th", finder.ask(' '), 0);
        Checks.due("a 25th", finder.ask('a'), TitleFinder.LIMIT);
        Checks.due("a blank behind a blank comes first", finder.ask(' '), TitleFinder.NOT_POSSIBLE);
        Checks.due("a wrong code comes first", finder.ask('A'), TitleFinder.BAD_VALUE);
        finder.erase();
        Checks.due("a letter as the 24th", finder.ask('x'), 0);
        Checks.due("a blank as the 25th", finder.ask(' '), TitleFinder.LIMIT);
        Checks.due("queryLength()", finder.queryLength(), 24);
        TitleFinder longest = Checks.withTitles("abcdefghijklmnopqrstuvwx");
        Checks.ask(longest, "abcdefghijklmnopqrstuvwx");
        Checks.due("results() of 24 characters", longest.results(), 1);
    }

    private static void testErase() {
        TitleFinder finder = bands();
        Checks.due("erase() of nothing", finder.erase(), TitleFinder.NOT_POSSIBLE);
        Checks.ask(finder, "band a");
        Checks.due("results()", finder.results(), 1);
        Checks.due("erase()", finder.erase(), 1);
        Checks.dueText("query", Checks.queryOf(finder), "band ");
        Checks.due("erase()", finder.erase(), 1);
        Checks.due("erase()", finder.erase(), 2);
        Checks.due("erase()", finder.erase(), 2);
        Checks.due("erase()", finder.erase(), 2);
        Checks.due("erase()", finder.erase(), 4);
        Checks.due("erase() of nothing", finder.erase(), TitleFinder.NOT_POSSIBLE);
        Checks.due("undo()", finder.undo(), 5);
        Checks.dueText("query after undo()", Checks.queryOf(finder), "b");
        Checks.due("undo()", finder.undo(), 4);
        Checks.dueText("query after undo()", Checks.queryOf(finder), "ba");
    }

    private static void testQueryCharacter() {
        TitleFinder finder = new TitleFinder();
        Checks.ask(finder, "a 9 ");
        Checks.due("queryLength()", finder.queryLength(), 4);
        int[] want = {97, 32, 57, 32};
        for (int i = 0; i < want.length; i++) {
            Checks.due("queryCharacter(" + i + ")", finder.queryCharacter(i), want[i]);
        }
        int[] wrong = {4, -1, 24, 25, Integer.MIN_VALUE, Integer.MAX_VALUE};
        for (int place : wrong) {
            Checks.due("queryCharacter(" + place + ")", finder.queryCharacter(place), NO_SUCH);
        }
        finder.erase();
        Checks.due("queryCharacter(3) after erase()", finder.queryCharacter(3), NO_SUCH);
    }

    private static void testEmptyQuery() {
        TitleFinder finder = bands();
        for (int mode = 0; mode < 4; mode++) {
            finder.setMode(mode);
            Checks.dueResults("the empty query in mode " + mode, finder, 1, 2, 0, 3);
            for (int rank = 0; rank < 4; rank++) {
                Checks.due("matchPlace(" + rank + ")", finder.matchPlace(rank), 0);
            }
            Checks.due("matchPlace(4)", finder.matchPlace(4), NO_SUCH);
        }
        finder.setOrder(2);
        Checks.dueResults("the empty query by name", finder, 1, 0, 3, 2);
    }

    private static void testResultsInModes() {
        TitleFinder finder = bands();
        Checks.ask(finder, "an");
        Checks.dueResults("part", finder, 1, 2, 0, 3);
        finder.setMode(1);
        Checks.dueResults("start", finder, 1);
        finder.setMode(2);
        Checks.dueResults("word", finder, 1, 3);
        Checks.due("matchPlace(1)", finder.matchPlace(1), 5);
        finder.setMode(3);
        Checks.dueResults("initials", finder);
        finder.erase();
        Checks.dueResults("one initial", finder, 1, 2, 3);
        Checks.emptyQuery(finder);
        Checks.ask(finder, "ba");
        Checks.dueResults("two initials", finder, 3);
        finder.setMode(0);
        Checks.dueResults("two characters", finder, 0, 3);
        Checks.ask(finder, "nd a");
        finder.setMode(1);
        Checks.dueResults("start with a blank inside", finder, 3);
        finder.setMode(2);
        Checks.dueResults("word with a blank inside", finder, 3);
        finder.setMode(3);
        Checks.dueResults("initials have no blank", finder);
    }

    private static void testResultsInOrders() {
        TitleFinder finder = bands();
        Checks.ask(finder, "n");
        // Places 2, 1, 0, 2; lengths 6, 2, 5, 7.
        Checks.dueResults("by place", finder, 2, 1, 0, 3);
        finder.setOrder(1);
        Checks.dueResults("often, without uses", finder, 2, 1, 0, 3);
        Checks.due("pick(3)", finder.pick(3), 3);
        Checks.ask(finder, "n");
        Checks.dueResults("often", finder, 3, 2, 1, 0);
        Checks.due("pick(2)", finder.pick(2), 1);
        Checks.ask(finder, "n");
        Checks.dueResults("the same uses", finder, 1, 3, 2, 0);
        Checks.due("pick(1)", finder.pick(1), 3);
        Checks.ask(finder, "n");
        Checks.dueResults("more uses", finder, 3, 1, 2, 0);
        finder.setOrder(2);
        Checks.dueResults("by name", finder, 1, 0, 3, 2);
        finder.setOrder(0);
        Checks.dueResults("by place again", finder, 2, 1, 0, 3);
        TitleFinder equal = Checks.withTitles("cab", "bab", "dab");
        Checks.ask(equal, "ab");
        Checks.dueResults("the lower number", equal, 0, 1, 2);
        equal.setOrder(2);
        Checks.dueResults("the lower name", equal, 1, 0, 2);
    }

    private static void testOrderOfNames() {
        TitleFinder finder = Checks.withTitles("aa", "a0", "a b", "a", "9", "b", "0a", "ab");
        finder.setOrder(2);
        Checks.dueResults("names", finder, 6, 4, 3, 2, 1, 0, 7, 5);
        TitleFinder long24 = Checks.withTitles("abcdefghijklmnopqrstuvwx", "abcdefghijklmnopqrstuvwa",
                "abcdefghijklmnopqrstuvw");
        long24.setOrder(2);
        Checks.dueResults("long names", long24, 2, 1, 0);
    }

    private static void testBlankInQuery() {
        TitleFinder finder = Checks.withTitles("a b", "ab", "a");
        Checks.ask(finder, "a ");
        Checks.dueResults("a blank at the end", finder, 2, 1, 0);
        Checks.ask(finder, "b");
        Checks.dueResults("a blank inside", finder, 0);
        finder.setMode(3);
        Checks.dueResults("a blank and initials", finder);
        finder.erase();
        Checks.dueResults("a blank at the end, initials", finder, 2, 1, 0);
    }

    private static void testMatchPlace() {
        TitleFinder finder = Checks.withTitles("b ab aab", "aab", "c b ab");
        Checks.ask(finder, "ab");
        int[] part = {1, 0, 2};
        int[] partPlaces = {1, 2, 4};
        Checks.dueResults("part", finder, part);
        for (int rank = 0; rank < 3; rank++) {
            Checks.due("matchPlace(" + rank + ")", finder.matchPlace(rank), partPlaces[rank]);
        }
        Checks.due("matchPlace(3)", finder.matchPlace(3), NO_SUCH);
        Checks.due("matchPlace(-1)", finder.matchPlace(-1), NO_SUCH);
        Checks.due("matchPlace(MAX)", finder.matchPlace(Integer.MAX_VALUE), NO_SUCH);
        finder.setMode(3);
        Checks.emptyQuery(finder);
        Checks.ask(finder, "a");
        Checks.dueResults("initials", finder, 1, 0, 2);
        Checks.due("matchPlace(0) of initials", finder.matchPlace(0), 0);
        Checks.due("matchPlace(1) of initials", finder.matchPlace(1), 1);
        Checks.due("matchPlace(2) of initials", finder.matchPlace(2), 2);
        finder.setMode(2);
        finder.erase();
        Checks.ask(finder, "aa");
        Checks.due("matchPlace(1) of words", finder.matchPlace(1), 5);
    }

    /** Each call sees the changes that were made since the last one. */
    private static void testResultsOfNow() {
        TitleFinder finder = bands();
        Checks.ask(finder, "an");
        finder.setMode(2);
        Checks.due("result(1) after setMode", finder.result(1), 3);
        finder.setMode(0);
        Checks.due("matchPlace(1) after setMode", finder.matchPlace(1), 1);
        finder.setOrder(2);
        Checks.due("result(1) after setOrder", finder.result(1), 0);
        finder.drop(0);
        Checks.due("result(1) after drop", finder.result(1), 2);
        finder.undo();
        Checks.due("matchPlace(2) after undo", finder.matchPlace(2), 1);
        finder.undo();
        Checks.due("pick(1) after undo", finder.pick(1), 2);
        Checks.addTitle(finder, "b");
        Checks.due("result(0) after add", finder.result(0), 4);
        Checks.runPlan(finder, "ask nd");
        Checks.due("matchPlace(0) after carryOut", finder.matchPlace(0), 2);
        finder.undo();
        Checks.due("matchPlace(4) after undo", finder.matchPlace(4), 0);
    }

    private static void testPick() {
        TitleFinder finder = bands();
        Checks.ask(finder, "ba");
        Checks.due("pick(2)", finder.pick(2), NO_SUCH);
        Checks.due("pick(-1)", finder.pick(-1), NO_SUCH);
        Checks.due("pick(MAX)", finder.pick(Integer.MAX_VALUE), NO_SUCH);
        Checks.dueText("the query stays", Checks.queryOf(finder), "ba");
        Checks.due("pick(1)", finder.pick(1), 3);
        Checks.due("queryLength()", finder.queryLength(), 0);
        Checks.due("uses", finder.of(3, 2), 1);
        Checks.due("uses of another one", finder.of(0, 2), 0);
        Checks.due("pick(0) with the empty query", finder.pick(0), 1);
        Checks.due("uses", finder.of(1, 2), 1);
        Checks.due("undo()", finder.undo(), 5);
        Checks.due("uses after undo()", finder.of(1, 2), 0);
        Checks.due("undo()", finder.undo(), 4);
        Checks.due("uses after undo()", finder.of(3, 2), 0);
        Checks.dueText("query after undo()", Checks.queryOf(finder), "ba");
    }

    private static void testPickWithoutResults() {
        TitleFinder finder = bands();
        Checks.ask(finder, "q");
        Checks.due("pick(0)", finder.pick(0), NO_SUCH);
        Checks.due("result(0)", finder.result(0), NO_SUCH);
        Checks.due("matchPlace(0)", finder.matchPlace(0), NO_SUCH);
        Checks.due("undo()", finder.undo(), 4);
        Checks.due("queryLength() after undo()", finder.queryLength(), 0);
    }
}
