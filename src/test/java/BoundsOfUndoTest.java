import java.math.BigInteger;
import java.util.ArrayList;
import java.util.List;
import java.util.function.Consumer;
import java.util.function.ToLongFunction;

/** One test for each sentence on undo, error codes, the digest and the life of an object that names a bound. */
public final class BoundsOfUndoTest {
    private static final int NO_SUCH = TitleFinder.NO_SUCH;
    private static final int BAD_VALUE = TitleFinder.BAD_VALUE;
    private static final int NOT_POSSIBLE = TitleFinder.NOT_POSSIBLE;
    private static final int LIMIT = TitleFinder.LIMIT;
    private static final int BAD_TEXT = TitleFinder.BAD_TEXT;
    private static final int NONE = TitleFinder.NONE;

    private BoundsOfUndoTest() {
    }

    public static void main(String[] args) {
        testCallsOfObject();
        testUndoableCalls();
        testUndoableCallsWithoutChange();
        testRefusedCalls();
        testOtherCalls();
        testMostStates();
        testOldestState();
        testStateIsEverything();
        testTextIsNoState();
        testSavedStatesAreNoState();
        testChangesNothing();
        testFirstNamed();
        testNoneIsNoErrorCode();
        testRestoresLast();
        testStatesLeft();
        testNothingSaved();
        testHashStarts();
        testHashOfValues();
        testOverflow();
        testListOfDigest();
        testNoneInDigest();
        Checks.end();
    }

    // ---- the life of an object

    private static void testCallsOfObject() {
        Checks.sentence("An object is used for at most 512 calls after it has been made");
        TitleFinder finder = new TitleFinder();
        finder.type('a');
        finder.add();
        for (int call = 3; call < 512; call++) {
            Checks.due("pick(0), call " + call, finder.pick(0), 0);
        }
        Checks.due("of(0, 2), call 512", finder.of(0, 2), 509);
        finder = new TitleFinder();
        for (int call = 1; call < 510; call++) {
            Checks.due("setMode(), call " + call, finder.setMode(call % 4), (call - 1) % 4);
        }
        Checks.due("undo(), call 510", finder.undo(), 5);
        Checks.due("mode(), call 511", finder.mode(), 508 % 4);
        Checks.due("undo(), call 512", finder.undo(), 4);
    }

    // ---- undo

    private static void makeTwo(TitleFinder finder) {
        Checks.runPlan(finder, "add sea;add fire;ask e");
    }

    /** One state is saved by the call, and it is the one from before the call. */
    private static void dueSaved(String call, String text, Consumer<TitleFinder> saving) {
        TitleFinder finder = new TitleFinder();
        makeTwo(finder);
        Checks.write(finder, text);
        long before = finder.digest();
        saving.accept(finder);
        Checks.due("undo() of " + call, finder.undo(), 1);
        Checks.due("digest() after undo() of " + call, finder.digest(), before);
        Checks.due("undo() again", finder.undo(), 0);
        Checks.due("undo() once more", finder.undo(), NOT_POSSIBLE);
    }

    private static void testUndoableCalls() {
        Checks.sentence("Methods marked \"Undoable\" save the state from before the call");
        dueSaved("carryOut", "add x;drop 0;pick 0;mode word;order name;clear", TitleFinder::carryOut);
        dueSaved("add", "sea fire", TitleFinder::add);
        dueSaved("drop", "", finder -> finder.drop(0));
        dueSaved("setMode", "", finder -> finder.setMode(3));
        dueSaved("setOrder", "", finder -> finder.setOrder(2));
        dueSaved("ask", "", finder -> finder.ask('x'));
        dueSaved("erase", "", TitleFinder::erase);
        dueSaved("pick", "", finder -> finder.pick(1));
    }

    private static void testUndoableCallsWithoutChange() {
        Checks.sentence("save the state from before the call (also if the call leaves it as it is)");
        dueSaved("setMode to the same mode", "", finder -> finder.setMode(0));
        dueSaved("setOrder to the same order", "", finder -> finder.setOrder(0));
        dueSaved("carryOut of a command that is not possible", "drop 9", TitleFinder::carryOut);
        dueSaved("carryOut of the same query", "ask e", TitleFinder::carryOut);
    }

    private static void testRefusedCalls() {
        Checks.sentence("if they return no error code");
        TitleFinder finder = new TitleFinder();
        makeTwo(finder);
        Checks.write(finder, "sea");
        Checks.due("add()", finder.add(), NOT_POSSIBLE);
        Checks.due("carryOut()", finder.carryOut(), BAD_TEXT);
        Checks.write(finder, "sea ");
        Checks.due("add()", finder.add(), BAD_TEXT);
        Checks.due("drop(2)", finder.drop(2), NO_SUCH);
        Checks.due("setMode(4)", finder.setMode(4), BAD_VALUE);
        Checks.due("setOrder(3)", finder.setOrder(3), BAD_VALUE);
        Checks.due("ask(33)", finder.ask(33), BAD_VALUE);
        Checks.due("pick(2)", finder.pick(2), NO_SUCH);
        Checks.due("undo()", finder.undo(), 0);
        Checks.due("ask(32)", finder.ask(32), NOT_POSSIBLE);
        Checks.due("erase()", finder.erase(), NOT_POSSIBLE);
        Checks.due("undo()", finder.undo(), NOT_POSSIBLE);
        for (int i = 0; i < 16; i++) {
            Checks.addTitle(finder, "t" + i);
        }
        Checks.due("undo()", finder.undo(), 5);
        Checks.addTitle(finder, "t15");
        Checks.due("add() of a 17th", Checks.addTitle(finder, "t16"), LIMIT);
        Checks.due("undo()", finder.undo(), 5);
        Checks.due("titles()", finder.titles(), 15);
    }

    private static void testOtherCalls() {
        Checks.sentence("Methods marked \"Undoable\" (no other ones)");
        TitleFinder finder = new TitleFinder();
        makeTwo(finder);
        finder.type('x');
        finder.ifAdded();
        finder.syntaxError();
        finder.clearText();
        finder.titles();
        finder.character(0, 0);
        for (int what = 0; what <= 6; what++) {
            finder.of(0, what);
        }
        finder.common(0, 1);
        finder.closest(0);
        finder.unknown();
        finder.hardest();
        finder.mode();
        finder.order();
        finder.queryLength();
        finder.queryCharacter(0);
        finder.results();
        finder.result(0);
        finder.matchPlace(0);
        finder.digest();
        Checks.due("undo()", finder.undo(), 0);
        Checks.due("undo(), which is not undoable", finder.undo(), NOT_POSSIBLE);
    }

    private static void testMostStates() {
        Checks.sentence("At most 6 states are saved");
        for (int saved = 0; saved <= 24; saved++) {
            TitleFinder finder = new TitleFinder();
            Checks.ask(finder, Checks.letters(saved));
            for (int left = Math.min(saved, 6) - 1; left >= 0; left--) {
                Checks.due("undo() of " + saved, finder.undo(), left);
            }
            Checks.due("undo() of " + saved + ", of none", finder.undo(), NOT_POSSIBLE);
            Checks.due("queryLength()", finder.queryLength(), Math.max(0, saved - 6));
        }
    }

    private static void testOldestState() {
        Checks.sentence("when a seventh one is saved, the oldest one is discarded");
        TitleFinder six = new TitleFinder();
        Checks.ask(six, "abcdef");
        undoAll(six);
        Checks.dueText("after six", Checks.queryOf(six), "");
        TitleFinder seven = new TitleFinder();
        Checks.ask(seven, "abcdefg");
        undoAll(seven);
        Checks.dueText("after seven", Checks.queryOf(seven), "a");
        TitleFinder again = new TitleFinder();
        Checks.ask(again, "abcdefghij");
        again.undo();
        again.undo();
        Checks.ask(again, "xyz");
        undoAll(again);
        Checks.dueText("after ten, two undone and three more", Checks.queryOf(again), "abcde");
    }

    private static void undoAll(TitleFinder finder) {
        for (int i = 0; i < 7; i++) {
            finder.undo();
        }
    }

    private static void testStateIsEverything() {
        Checks.sentence("The state is everything except the text and the saved states.");
        TitleFinder finder = Checks.withTitles("sea", "fire", "stone");
        finder.pick(2);
        finder.setMode(2);
        finder.setOrder(1);
        Checks.runPlan(finder, "ask s");
        finder.ask(' ');
        Checks.runPlan(finder, "drop 1;add ice;pick 0;mode part;order name;ask e i");
        Checks.due("undo()", finder.undo(), 5);
        Checks.dueText("title 0", Checks.titleOf(finder, 0), "sea");
        Checks.dueText("title 1", Checks.titleOf(finder, 1), "fire");
        Checks.dueText("title 2", Checks.titleOf(finder, 2), "stone");
        Checks.due("titles()", finder.titles(), 3);
        Checks.due("uses of sea", finder.of(0, 2), 0);
        Checks.due("uses of fire", finder.of(1, 2), 0);
        Checks.due("uses of stone", finder.of(2, 2), 1);
        Checks.due("mode()", finder.mode(), 2);
        Checks.due("order()", finder.order(), 1);
        Checks.dueText("query", Checks.queryOf(finder), "s ");
        Checks.dueResults("results", finder, 2, 0);
    }

    private static void testTextIsNoState() {
        Checks.sentence("The state is everything except the text and the saved states. (the text)");
        TitleFinder finder = Checks.withTitles("sea");
        Checks.type(finder, "ice");
        Checks.due("undo()", finder.undo(), 0);
        Checks.due("add() of the text", finder.add(), 0);
        Checks.dueText("title 0", Checks.titleOf(finder, 0), "ice");
        Checks.due("undo() of add()", finder.undo(), 0);
        Checks.due("the text does not come back", finder.clearText(), 0);
        Checks.runPlan(finder, "add a;add b");
        Checks.type(finder, "xy");
        finder.undo();
        Checks.due("clearText()", finder.clearText(), 2);
    }

    private static void testSavedStatesAreNoState() {
        Checks.sentence("The state is everything except the text and the saved states. (the saved states)");
        TitleFinder finder = new TitleFinder();
        Checks.ask(finder, "abc");
        finder.undo();
        finder.undo();
        Checks.dueText("query", Checks.queryOf(finder), "a");
        Checks.ask(finder, "x");
        Checks.due("undo()", finder.undo(), 1);
        Checks.dueText("query", Checks.queryOf(finder), "a");
        Checks.due("undo()", finder.undo(), 0);
        Checks.dueText("query", Checks.queryOf(finder), "");
        Checks.due("undo()", finder.undo(), NOT_POSSIBLE);
        TitleFinder full = new TitleFinder();
        Checks.ask(full, "abcdefg");
        Checks.due("undo() of six", full.undo(), 5);
        Checks.due("undo() of five", full.undo(), 4);
        Checks.dueText("query", Checks.queryOf(full), "abcde");
    }

    // ---- error codes

    /** Sixteen titles, six saved states, a full query that ends with a blank, and a full text that is no title. */
    private static void makeFull(TitleFinder finder) {
        for (int i = 0; i < 16; i++) {
            Checks.addTitle(finder, "t" + i);
        }
        finder.pick(3);
        Checks.runPlan(finder, "mode word;order often");
        Checks.ask(finder, Checks.letters(23) + " ");
        Checks.type(finder, "clear;clear;clear;clear;clear;clear;clear;clear;clear;clear;clear;clear;add a;ad");
    }

    private static void dueUnchanged(String call, ToLongFunction<TitleFinder> refused, int want) {
        Checks.dueRefused(call, BoundsOfUndoTest::makeFull, refused, want);
    }

    private static void dueUnchanged(String call, String text, ToLongFunction<TitleFinder> refused, int want) {
        Checks.dueRefused(call + " of " + text, finder -> {
            makeFull(finder);
            Checks.write(finder, text);
        }, refused, want);
    }

    private static void testChangesNothing() {
        Checks.sentence("A call that returns NO_SUCH, BAD_VALUE, NOT_POSSIBLE, LIMIT or BAD_TEXT changes nothing.");
        dueUnchanged("type(31)", finder -> finder.type(31), BAD_VALUE);
        dueUnchanged("type(97)", finder -> finder.type(97), LIMIT);
        dueUnchanged("carryOut()", TitleFinder::carryOut, BAD_TEXT);
        dueUnchanged("carryOut()", "clear;add t0;x", TitleFinder::carryOut, BAD_TEXT);
        dueUnchanged("add()", TitleFinder::add, BAD_TEXT);
        dueUnchanged("add()", "t3", TitleFinder::add, NOT_POSSIBLE);
        dueUnchanged("add()", "new", TitleFinder::add, LIMIT);
        dueUnchanged("drop(16)", finder -> finder.drop(16), NO_SUCH);
        dueUnchanged("character(16, 0)", finder -> finder.character(16, 0), NO_SUCH);
        dueUnchanged("character(0, 2)", finder -> finder.character(0, 2), NO_SUCH);
        dueUnchanged("of(16, 3)", finder -> finder.of(16, 3), NO_SUCH);
        dueUnchanged("of(0, 7)", finder -> finder.of(0, 7), BAD_VALUE);
        dueUnchanged("common(0, 16)", finder -> finder.common(0, 16), NO_SUCH);
        dueUnchanged("closest(16)", finder -> finder.closest(16), NO_SUCH);
        dueUnchanged("ifAdded()", TitleFinder::ifAdded, BAD_TEXT);
        dueUnchanged("ifAdded()", "t3", TitleFinder::ifAdded, NOT_POSSIBLE);
        dueUnchanged("ifAdded()", "new", TitleFinder::ifAdded, LIMIT);
        dueUnchanged("setMode(4)", finder -> finder.setMode(4), BAD_VALUE);
        dueUnchanged("setOrder(3)", finder -> finder.setOrder(3), BAD_VALUE);
        dueUnchanged("ask(33)", finder -> finder.ask(33), BAD_VALUE);
        dueUnchanged("ask(32)", finder -> finder.ask(32), NOT_POSSIBLE);
        dueUnchanged("ask(97)", finder -> finder.ask(97), LIMIT);
        dueUnchanged("queryCharacter(24)", finder -> finder.queryCharacter(24), NO_SUCH);
        dueUnchanged("result(0)", finder -> finder.result(0), NO_SUCH);
        dueUnchanged("matchPlace(0)", finder -> finder.matchPlace(0), NO_SUCH);
        dueUnchanged("pick(0)", finder -> finder.pick(0), NO_SUCH);
        Checks.dueRefused("erase()", finder -> Checks.write(finder, "clear"), TitleFinder::erase, NOT_POSSIBLE);
        Checks.dueRefused("undo()", finder -> Checks.write(finder, "clear"), TitleFinder::undo, NOT_POSSIBLE);
    }

    private static void testFirstNamed() {
        Checks.sentence("If several of them apply, the one that is named first in the @return line is returned.");
        TitleFinder finder = new TitleFinder();
        makeFull(finder);
        Checks.due("type(127), full", finder.type(127), BAD_VALUE);
        Checks.due("add(), no title and 16 of them", finder.add(), BAD_TEXT);
        Checks.due("ifAdded(), no title and 16 of them", finder.ifAdded(), BAD_TEXT);
        Checks.write(finder, "t15");
        Checks.due("add(), there already and 16 of them", finder.add(), NOT_POSSIBLE);
        Checks.due("ifAdded(), there already and 16 of them", finder.ifAdded(), NOT_POSSIBLE);
        Checks.due("of(16, 7)", finder.of(16, 7), NO_SUCH);
        Checks.due("of(-1, -1)", finder.of(-1, -1), NO_SUCH);
        Checks.due("ask(33), full", finder.ask(33), BAD_VALUE);
        Checks.due("ask(32), behind a blank and full", finder.ask(32), NOT_POSSIBLE);
        Checks.due("ask(97), full", finder.ask(97), LIMIT);
    }

    private static void testNoneIsNoErrorCode() {
        Checks.sentence("NONE is not an error code.");
        int[] codes = {NO_SUCH, BAD_VALUE, NOT_POSSIBLE, LIMIT, BAD_TEXT, NONE};
        for (int i = 0; i < codes.length; i++) {
            Checks.due("constant " + i, codes[i], -1 - i);
        }
        TitleFinder finder = Checks.withTitles("a", "ab");
        Checks.due("of(0, 3)", finder.of(0, 3), NONE);
        Checks.due("of(0, 7), whose code comes before NONE", finder.of(0, 7), BAD_VALUE);
    }

    // ---- promise 28: undo

    private static void testRestoresLast() {
        Checks.sentence("Restores the state that was saved last, and discards it from the saved states.");
        TitleFinder finder = new TitleFinder();
        Checks.ask(finder, "abc");
        String[] want = {"ab", "a", ""};
        for (String query : want) {
            finder.undo();
            Checks.dueText("query", Checks.queryOf(finder), query);
        }
        Checks.runPlan(finder, "add a;add b;order name");
        finder.setMode(1);
        finder.undo();
        Checks.due("mode()", finder.mode(), 0);
        Checks.due("order()", finder.order(), 2);
        finder.undo();
        Checks.due("order()", finder.order(), 0);
        Checks.due("titles()", finder.titles(), 0);
    }

    private static void testStatesLeft() {
        Checks.sentence("Returns the number of saved states that are left");
        TitleFinder finder = new TitleFinder();
        Checks.ask(finder, Checks.letters(9));
        for (int left = 5; left >= 0; left--) {
            Checks.due("undo()", finder.undo(), left);
        }
        finder.setMode(1);
        Checks.due("undo() of one", finder.undo(), 0);
    }

    private static void testNothingSaved() {
        Checks.sentence("NOT_POSSIBLE if no state is saved");
        Checks.due("undo() of a new object", new TitleFinder().undo(), NOT_POSSIBLE);
        TitleFinder finder = new TitleFinder();
        Checks.ask(finder, Checks.letters(7));
        for (int i = 0; i < 6; i++) {
            finder.undo();
        }
        Checks.due("undo()", finder.undo(), NOT_POSSIBLE);
        Checks.due("undo()", finder.undo(), NOT_POSSIBLE);
        Checks.dueText("query", Checks.queryOf(finder), "a");
        finder.ask('b');
        Checks.due("undo() of one", finder.undo(), 0);
        Checks.dueText("query", Checks.queryOf(finder), "a");
    }

    // ---- promise 29: digest

    /** The hash as the document says it, over numbers without an end. */
    private static long hash(int... values) {
        BigInteger hash = BigInteger.valueOf(163);
        for (int value : values) {
            hash = hash.multiply(BigInteger.valueOf(31)).add(BigInteger.valueOf(value));
        }
        return hash.longValue();
    }

    private static long hashOf(TitleFinder finder) {
        List<Integer> values = new ArrayList<>();
        values.add(finder.titles());
        for (int title = 0; title < finder.titles(); title++) {
            for (int what = 0; what <= 6; what++) {
                values.add(finder.of(title, what));
            }
            for (int place = 0; place < finder.of(title, 0); place++) {
                values.add(finder.character(title, place));
            }
        }
        values.addAll(List.of(finder.unknown(), finder.hardest(), finder.mode(), finder.order(), finder.queryLength()));
        for (int place = 0; place < finder.queryLength(); place++) {
            values.add(finder.queryCharacter(place));
        }
        values.add(finder.results());
        for (int rank = 0; rank < finder.results(); rank++) {
            values.add(finder.result(rank));
            values.add(finder.matchPlace(rank));
        }
        return hash(values.stream().mapToInt(value -> value).toArray());
    }

    private static void testHashStarts() {
        Checks.sentence("The hash starts at 163.");
        // 163 * 31^7 + NONE * 31^4 for the list 0, 0, NONE, 0, 0, 0, 0.
        Checks.due("digest()", new TitleFinder().digest(), 163L * 27512614111L - 6L * 923521L);
    }

    private static void testHashOfValues() {
        Checks.sentence("For each value v of the following list, in order, the hash becomes 31 * hash + v");
        TitleFinder finder = Checks.withTitles("a");
        Checks.due("digest() of a", finder.digest(), hash(1, 1, 1, 0, 0, 1, 0, 1, 97, 0, 0, 0, 0, 0, 1, 0, 0));
        Checks.runPlan(finder, "mode word;order name");
        finder.ask('b');
        Checks.due("digest() of a, asked for b", finder.digest(),
                hash(1, 1, 1, 0, 0, 1, 0, 1, 97, 0, 0, 2, 2, 1, 98, 0));
    }

    private static void testOverflow() {
        Checks.sentence("in long arithmetic with overflow");
        TitleFinder finder = new TitleFinder();
        for (int i = 0; i < 16; i++) {
            Checks.due("digest() of " + i + " titles", finder.digest(), hashOf(finder));
            Checks.addTitle(finder, Checks.letters(i + 6) + " " + i);
        }
        Checks.due("digest() of 16 titles", finder.digest(), hashOf(finder));
    }

    private static void testListOfDigest() {
        Checks.sentence("titles(); for each title its numbers 0 to 6 and all its characters; unknown(); hardest();"
                + " mode(); order(); queryLength(); all characters of the query; results(); for each result its title"
                + " and the place of its match");
        for (int mode = 0; mode < 4; mode++) {
            for (int order = 0; order < 3; order++) {
                for (String query : new String[] {"", "a", "ab", "x", "ab x", "b ", "q"}) {
                    TitleFinder finder = Checks.withTitles("x ab", "ab", "b a", "cab x", "a");
                    Checks.ask(finder, "cab");
                    finder.pick(0);
                    finder.setMode(mode);
                    finder.setOrder(order);
                    Checks.ask(finder, query);
                    String state = "mode " + mode + ", order " + order + ", asked for <" + query + ">";
                    Checks.due("digest() in " + state, finder.digest(), hashOf(finder));
                }
            }
        }
    }

    private static void testNoneInDigest() {
        Checks.sentence("for each title its numbers 0 to 6 and all its characters; unknown(); hardest()"
                + " (NONE among them)");
        TitleFinder finder = Checks.withTitles("ab", "ac");
        finder.setMode(3);
        Checks.due("digest()", finder.digest(), hash(2, 2, 1, 0, NONE, NONE, 0, 1, 97, 98,
                2, 1, 0, NONE, NONE, NONE, NONE, 97, 99, 2, NONE, 3, 0, 0, 2, 0, 0, 1, 0));
    }
}
