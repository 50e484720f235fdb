import java.util.function.ToLongFunction;

/** One test for each sentence of promises 16 (setMode) to 27 (pick) that names a bound. */
public final class BoundsOfQueryTest {
    private static final int NO_SUCH = TitleFinder.NO_SUCH;
    private static final int BAD_VALUE = TitleFinder.BAD_VALUE;
    private static final int NOT_POSSIBLE = TitleFinder.NOT_POSSIBLE;
    private static final int LIMIT = TitleFinder.LIMIT;
    private static final int[] FAR = {Integer.MIN_VALUE, Integer.MIN_VALUE + 1, Integer.MAX_VALUE - 1,
        Integer.MAX_VALUE};

    private BoundsOfQueryTest() {
    }

    public static void main(String[] args) {
        testPreviousMode();
        testModeOutOfRange();
        testPreviousOrder();
        testOrderOutOfRange();
        testMode();
        testOrder();
        testAskAnswersResults();
        testAskCodeOutOfRange();
        testAskBlankOnEmptyQuery();
        testAskBlankBehindBlank();
        testAskOnFullQuery();
        testEraseLast();
        testEraseAnswersResults();
        testEraseOfEmptyQuery();
        testQueryLength();
        testQueryCharacter();
        testQueryCharacterOfNoPlace();
        testNumberOfResults();
        testResult();
        testResultOfNoRank();
        testMatchPlace();
        testMatchPlaceOfNoRank();
        testPickMakesOneUseMore();
        testPickMakesQueryEmpty();
        testPickAnswersTitle();
        testPickOfNoRank();
        Checks.end();
    }

    /** Four titles, six saved states, a query with three results, an order and a text. */
    private static void makeFour(TitleFinder finder) {
        Checks.runPlan(finder, "add ab c;add b;add cab;add x y;pick 0;pick 1;order often");
        Checks.ask(finder, "abcdef");
        Checks.runPlan(finder, "ask b");
        Checks.type(finder, "clear;add b");
    }

    private static void dueRefusedOfFour(String call, ToLongFunction<TitleFinder> refused, int want) {
        Checks.dueRefused(call, BoundsOfQueryTest::makeFour, refused, want);
    }

    // ---- promises 16 to 19: setMode, setOrder, mode, order

    private static void testPreviousMode() {
        Checks.sentence("Returns the previous mode");
        TitleFinder finder = new TitleFinder();
        int before = 0;
        for (int mode : new int[] {0, 3, 3, 2, 1, 0, 2, 0, 1, 3, 0}) {
            Checks.due("setMode(" + mode + ")", finder.setMode(mode), before);
            before = mode;
        }
    }

    private static void testModeOutOfRange() {
        Checks.sentence("BAD_VALUE if mode is out of range");
        dueRefusedOfFour("setMode(-1)", finder -> finder.setMode(-1), BAD_VALUE);
        dueRefusedOfFour("setMode(4)", finder -> finder.setMode(4), BAD_VALUE);
        for (int mode : FAR) {
            dueRefusedOfFour("setMode(" + mode + ")", finder -> finder.setMode(mode), BAD_VALUE);
        }
        TitleFinder finder = new TitleFinder();
        Checks.due("setMode(3)", finder.setMode(3), 0);
        Checks.due("setMode(4)", finder.setMode(4), BAD_VALUE);
        Checks.due("setMode(-1)", finder.setMode(-1), BAD_VALUE);
        Checks.due("mode()", finder.mode(), 3);
    }

    private static void testPreviousOrder() {
        Checks.sentence("Returns the previous order");
        TitleFinder finder = new TitleFinder();
        int before = 0;
        for (int order : new int[] {0, 2, 2, 1, 1, 0, 1, 2, 0}) {
            Checks.due("setOrder(" + order + ")", finder.setOrder(order), before);
            before = order;
        }
    }

    private static void testOrderOutOfRange() {
        Checks.sentence("BAD_VALUE if order is out of range");
        dueRefusedOfFour("setOrder(-1)", finder -> finder.setOrder(-1), BAD_VALUE);
        dueRefusedOfFour("setOrder(3)", finder -> finder.setOrder(3), BAD_VALUE);
        for (int order : FAR) {
            dueRefusedOfFour("setOrder(" + order + ")", finder -> finder.setOrder(order), BAD_VALUE);
        }
        TitleFinder finder = new TitleFinder();
        Checks.due("setOrder(2)", finder.setOrder(2), 0);
        Checks.due("setOrder(3)", finder.setOrder(3), BAD_VALUE);
        Checks.due("setOrder(-1)", finder.setOrder(-1), BAD_VALUE);
        Checks.due("order()", finder.order(), 2);
    }

    private static void testMode() {
        Checks.sentence("Returns the mode.");
        TitleFinder finder = new TitleFinder();
        for (int mode = 3; mode >= 0; mode--) {
            finder.setMode(mode);
            Checks.due("mode()", finder.mode(), mode);
            Checks.due("order()", finder.order(), 0);
        }
    }

    private static void testOrder() {
        Checks.sentence("Returns the order.");
        TitleFinder finder = new TitleFinder();
        for (int order = 2; order >= 0; order--) {
            finder.setOrder(order);
            Checks.due("order()", finder.order(), order);
            Checks.due("mode()", finder.mode(), 0);
        }
    }

    // ---- promises 20 to 23: ask, erase, queryLength, queryCharacter

    private static void testAskAnswersResults() {
        Checks.sentence("Returns the number of results then (ask)");
        TitleFinder finder = new TitleFinder();
        Checks.due("ask(97) without titles", finder.ask('a'), 0);
        finder = Checks.withCount(16);
        Checks.due("ask(t), all of them", finder.ask('t'), 16);
        Checks.due("ask(1)", finder.ask('1'), 7);
        Checks.due("ask(32), which does not count", finder.ask(' '), 7);
        finder.erase();
        Checks.due("ask(5), the last of them", finder.ask('5'), 1);
        Checks.due("ask(5), none of them", finder.ask('5'), 0);
    }

    private static void testAskCodeOutOfRange() {
        Checks.sentence("BAD_VALUE if code is out of range (ask: 97 to 122, 48 to 57, or 32)");
        int[] wrong = {96, 123, 47, 58, 31, 33, 65, 90, 126, 127, 0, -1, -32, 65536 + 97, 256 + 97};
        int[] right = {97, 122, 48, 57, 32};
        for (int code : wrong) {
            dueRefusedOfFour("ask(" + code + ")", finder -> finder.ask(code), BAD_VALUE);
        }
        for (int code : FAR) {
            dueRefusedOfFour("ask(" + code + ")", finder -> finder.ask(code), BAD_VALUE);
        }
        for (int code : right) {
            TitleFinder finder = new TitleFinder();
            finder.ask('a');
            Checks.due("ask(" + code + ")", finder.ask(code), 0);
            Checks.due("queryCharacter(1)", finder.queryCharacter(1), code);
        }
        Checks.dueRefused("ask(33) on a full query", finder -> Checks.ask(finder, Checks.letters(24)),
                finder -> finder.ask(33), BAD_VALUE);
        Checks.due("ask(33) on an empty query", new TitleFinder().ask(33), BAD_VALUE);
    }

    private static void testAskBlankOnEmptyQuery() {
        Checks.sentence("NOT_POSSIBLE if it is a blank and the query is empty or ends with a blank (it is empty)");
        Checks.dueRefused("ask(32)", finder -> {
            makeFour(finder);
            finder.erase();
        }, finder -> finder.ask(32), NOT_POSSIBLE);
        Checks.due("ask(32) of a new object", new TitleFinder().ask(32), NOT_POSSIBLE);
        TitleFinder finder = new TitleFinder();
        finder.ask('0');
        Checks.due("ask(32) behind one character", finder.ask(32), 0);
    }

    private static void testAskBlankBehindBlank() {
        Checks.sentence("NOT_POSSIBLE if it is a blank and the query is empty or ends with a blank (it ends with one)");
        Checks.dueRefused("ask(32), the second one", finder -> {
            makeFour(finder);
            finder.ask(32);
        }, finder -> finder.ask(32), NOT_POSSIBLE);
        Checks.dueRefused("ask(32) on a full query that ends with a blank",
                finder -> Checks.ask(finder, Checks.letters(23) + " "), finder -> finder.ask(32), NOT_POSSIBLE);
        TitleFinder finder = new TitleFinder();
        Checks.ask(finder, "a b");
        Checks.due("ask(32) behind b", finder.ask(32), 0);
    }

    private static void testAskOnFullQuery() {
        Checks.sentence("LIMIT if the query has 24 characters");
        for (int code : new int[] {97, 122, 48, 57, 32}) {
            Checks.dueRefused("ask(" + code + ")", finder -> Checks.ask(finder, Checks.letters(24)),
                    finder -> finder.ask(code), LIMIT);
        }
        Checks.dueRefused("ask(97) behind a blank", finder -> Checks.ask(finder, Checks.letters(23) + " "),
                finder -> finder.ask(97), LIMIT);
        TitleFinder finder = Checks.withTitles(Checks.letters(24));
        Checks.ask(finder, Checks.letters(23));
        Checks.due("ask(120), the 24th", finder.ask(120), 1);
        Checks.due("ask(97), the 25th", finder.ask(97), LIMIT);
        finder.erase();
        Checks.due("ask(32), the 24th", finder.ask(32), 1);
        Checks.due("queryLength()", finder.queryLength(), 24);
    }

    private static void testEraseLast() {
        Checks.sentence("Removes the last character of the query.");
        TitleFinder finder = new TitleFinder();
        Checks.ask(finder, Checks.letters(21) + " 0 ");
        String whole = Checks.letters(21) + " 0 ";
        for (int length = 23; length >= 0; length--) {
            finder.erase();
            Checks.dueText("query", Checks.queryOf(finder), whole.substring(0, length));
            Checks.due("queryLength()", finder.queryLength(), length);
        }
    }

    private static void testEraseAnswersResults() {
        Checks.sentence("Returns the number of results then (erase)");
        TitleFinder finder = Checks.withCount(16);
        Checks.ask(finder, "t155");
        Checks.due("erase() to t15", finder.erase(), 1);
        Checks.due("erase() to t1", finder.erase(), 7);
        Checks.due("erase() to t", finder.erase(), 16);
        Checks.due("erase() to nothing", finder.erase(), 16);
        finder = Checks.withTitles("a b", "ab", "a");
        Checks.ask(finder, "a b");
        Checks.due("erase() to a and a blank", finder.erase(), 3);
        finder = new TitleFinder();
        Checks.ask(finder, "a");
        Checks.due("erase() without titles", finder.erase(), 0);
    }

    private static void testEraseOfEmptyQuery() {
        Checks.sentence("NOT_POSSIBLE if the query is empty (erase)");
        Checks.dueRefused("erase()", finder -> {
            makeFour(finder);
            finder.erase();
        }, TitleFinder::erase, NOT_POSSIBLE);
        Checks.due("erase() of a new object", new TitleFinder().erase(), NOT_POSSIBLE);
        TitleFinder finder = Checks.withTitles("a");
        finder.ask('a');
        Checks.due("erase() of one character", finder.erase(), 1);
        Checks.due("erase() of nothing", finder.erase(), NOT_POSSIBLE);
        finder.ask('a');
        finder.pick(0);
        Checks.due("erase() after pick(0)", finder.erase(), NOT_POSSIBLE);
        Checks.runPlan(finder, "ask a;clear");
        Checks.due("erase() after clear", finder.erase(), NOT_POSSIBLE);
    }

    private static void testQueryLength() {
        Checks.sentence("Returns the number of characters of the query, a blank at its end included.");
        TitleFinder finder = new TitleFinder();
        Checks.due("queryLength()", finder.queryLength(), 0);
        String whole = "a b c d e f g h i j k lm";
        for (int length = 1; length <= 24; length++) {
            finder.ask(whole.charAt(length - 1));
            Checks.due("queryLength()", finder.queryLength(), length);
        }
        finder.erase();
        finder.ask(' ');
        Checks.due("queryLength() with a blank as the 24th", finder.queryLength(), 24);
    }

    private static void testQueryCharacter() {
        Checks.sentence("Returns a character of the query (0 for its first character)");
        TitleFinder finder = new TitleFinder();
        String whole = "az 09 cdefghijklmnopqrs ";
        Checks.ask(finder, whole);
        for (int place = 0; place < 24; place++) {
            Checks.due("queryCharacter(" + place + ")", finder.queryCharacter(place), whole.charAt(place));
        }
    }

    private static void testQueryCharacterOfNoPlace() {
        Checks.sentence("NO_SUCH if there is no such place");
        TitleFinder finder = new TitleFinder();
        Checks.due("queryCharacter(0) of nothing", finder.queryCharacter(0), NO_SUCH);
        Checks.ask(finder, "a ");
        Checks.due("queryCharacter(1), a blank", finder.queryCharacter(1), 32);
        Checks.due("queryCharacter(2)", finder.queryCharacter(2), NO_SUCH);
        Checks.due("queryCharacter(-1)", finder.queryCharacter(-1), NO_SUCH);
        Checks.ask(finder, Checks.letters(22));
        Checks.due("queryCharacter(23)", finder.queryCharacter(23), 'v');
        Checks.due("queryCharacter(24)", finder.queryCharacter(24), NO_SUCH);
        finder.erase();
        Checks.due("queryCharacter(23) after erase()", finder.queryCharacter(23), NO_SUCH);
        Checks.runPlan(finder, "ask b");
        Checks.due("queryCharacter(1) after a shorter query", finder.queryCharacter(1), NO_SUCH);
        for (int place : FAR) {
            dueRefusedOfFour("queryCharacter(" + place + ")", box -> box.queryCharacter(place), NO_SUCH);
        }
    }

    // ---- promises 24 to 27: results, result, matchPlace, pick

    private static void testNumberOfResults() {
        Checks.sentence("Returns the number of results.");
        Checks.due("results() without titles", new TitleFinder().results(), 0);
        TitleFinder finder = Checks.withCount(16);
        Checks.due("results() of the empty query", finder.results(), 16);
        String[] queries = {"t", "1", "t1", "t15", "0", "x", "t16"};
        int[] want = {16, 7, 7, 1, 2, 0, 0};
        for (int i = 0; i < queries.length; i++) {
            Checks.askFor(finder, queries[i]);
            Checks.due("results() of " + queries[i], finder.results(), want[i]);
        }
    }

    private static void testResult() {
        Checks.sentence("Returns the number of the title (result)");
        TitleFinder finder = Checks.withCount(16);
        for (int rank = 0; rank < 16; rank++) {
            Checks.due("result(" + rank + ")", finder.result(rank), rank);
        }
        finder.setOrder(2);
        int[] byName = {0, 1, 10, 11, 12, 13, 14, 15, 2, 3, 4, 5, 6, 7, 8, 9};
        Checks.dueResults("by name", finder, byName);
        finder.drop(0);
        Checks.due("result(1) after drop(0)", finder.result(1), 9);
        Checks.due("result(14) after drop(0)", finder.result(14), 8);
    }

    private static void testResultOfNoRank() {
        Checks.sentence("NO_SUCH if there is no such result (result)");
        Checks.due("result(0) without titles", new TitleFinder().result(0), NO_SUCH);
        for (int rank : new int[] {-1, 3, 4, 16}) {
            dueRefusedOfFour("result(" + rank + ")", finder -> finder.result(rank), NO_SUCH);
        }
        for (int rank : FAR) {
            dueRefusedOfFour("result(" + rank + ")", finder -> finder.result(rank), NO_SUCH);
        }
        TitleFinder finder = Checks.withCount(16);
        Checks.due("result(15)", finder.result(15), 15);
        Checks.due("result(16)", finder.result(16), NO_SUCH);
        Checks.due("result(-1)", finder.result(-1), NO_SUCH);
        Checks.ask(finder, "x");
        Checks.due("result(0) of x", finder.result(0), NO_SUCH);
    }

    private static void testMatchPlace() {
        Checks.sentence("Returns the place of the match of a result.");
        TitleFinder finder = Checks.withTitles("b", "ab", "aaaaaaaaaaaaaaaaaaaaaaab", "a b", "aa");
        Checks.ask(finder, "b");
        Checks.dueResults("b", finder, 0, 1, 3, 2);
        Checks.duePlaces("b", finder, 0, 1, 2, 23);
        finder.setOrder(2);
        Checks.dueResults("b by name", finder, 3, 2, 1, 0);
        Checks.duePlaces("b by name", finder, 2, 23, 1, 0);
        finder.setMode(3);
        Checks.dueResults("b among initials", finder, 3, 0);
        Checks.duePlaces("b among initials", finder, 1, 0);
    }

    private static void testMatchPlaceOfNoRank() {
        Checks.sentence("NO_SUCH if there is no such result (matchPlace)");
        Checks.due("matchPlace(0) without titles", new TitleFinder().matchPlace(0), NO_SUCH);
        for (int rank : new int[] {-1, 3, 4, 16}) {
            dueRefusedOfFour("matchPlace(" + rank + ")", finder -> finder.matchPlace(rank), NO_SUCH);
        }
        for (int rank : FAR) {
            dueRefusedOfFour("matchPlace(" + rank + ")", finder -> finder.matchPlace(rank), NO_SUCH);
        }
        TitleFinder finder = Checks.withCount(16);
        Checks.due("matchPlace(15)", finder.matchPlace(15), 0);
        Checks.due("matchPlace(16)", finder.matchPlace(16), NO_SUCH);
        Checks.due("matchPlace(-1)", finder.matchPlace(-1), NO_SUCH);
        Checks.ask(finder, "x");
        Checks.due("matchPlace(0) of x", finder.matchPlace(0), NO_SUCH);
    }

    private static void testPickMakesOneUseMore() {
        Checks.sentence("its title has one use more");
        TitleFinder finder = Checks.withCount(16);
        for (int uses = 1; uses <= 3; uses++) {
            finder.pick(15);
            Checks.due("uses of 15", finder.of(15, 2), uses);
            Checks.due("uses of 14", finder.of(14, 2), 0);
        }
        finder.pick(0);
        Checks.due("uses of 0", finder.of(0, 2), 1);
        finder.setOrder(1);
        finder.pick(0);
        Checks.due("uses of 15, the first result by uses", finder.of(15, 2), 4);
        finder.undo();
        Checks.due("uses of 15 after undo()", finder.of(15, 2), 3);
        finder.drop(0);
        Checks.due("uses of 14 after drop(0)", finder.of(14, 2), 3);
    }

    private static void testPickMakesQueryEmpty() {
        Checks.sentence("and the query becomes empty");
        TitleFinder finder = Checks.withTitles(Checks.letters(24), "b");
        Checks.ask(finder, Checks.letters(24));
        Checks.due("pick(0)", finder.pick(0), 0);
        Checks.due("queryLength()", finder.queryLength(), 0);
        Checks.due("queryCharacter(0)", finder.queryCharacter(0), NO_SUCH);
        Checks.due("results()", finder.results(), 2);
        Checks.ask(finder, "b ");
        Checks.due("pick(0) with a blank at the end", finder.pick(0), 1);
        Checks.due("queryLength()", finder.queryLength(), 0);
        Checks.due("pick(0) with an empty query", finder.pick(0), 1);
        Checks.due("queryLength()", finder.queryLength(), 0);
        Checks.due("ask(98)", finder.ask('b'), 2);
        Checks.dueText("query", Checks.queryOf(finder), "b");
    }

    private static void testPickAnswersTitle() {
        Checks.sentence("Returns the number of the title (pick)");
        TitleFinder finder = Checks.withTitles("ccc", "bb", "a");
        Checks.due("pick(0)", finder.pick(0), 2);
        Checks.due("pick(1)", finder.pick(1), 1);
        Checks.due("pick(2)", finder.pick(2), 0);
        finder.setOrder(1);
        finder.pick(2);
        Checks.due("pick(0), the one that was picked last", finder.pick(0), 0);
        Checks.ask(finder, "b");
        Checks.due("pick(0) of b", finder.pick(0), 1);
    }

    private static void testPickOfNoRank() {
        Checks.sentence("NO_SUCH if there is no such result (pick)");
        Checks.due("pick(0) without titles", new TitleFinder().pick(0), NO_SUCH);
        for (int rank : new int[] {-1, 3, 4, 16}) {
            dueRefusedOfFour("pick(" + rank + ")", finder -> finder.pick(rank), NO_SUCH);
        }
        for (int rank : FAR) {
            dueRefusedOfFour("pick(" + rank + ")", finder -> finder.pick(rank), NO_SUCH);
        }
        Checks.dueRefused("pick(0) without results", finder -> {
            makeFour(finder);
            finder.ask('q');
        }, finder -> finder.pick(0), NO_SUCH);
        TitleFinder finder = Checks.withCount(16);
        Checks.due("pick(16)", finder.pick(16), NO_SUCH);
        Checks.due("pick(15)", finder.pick(15), 15);
    }
}
