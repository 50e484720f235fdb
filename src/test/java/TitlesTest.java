/** Promises 6 (add), 7 (drop), 8 (titles), 9 (character), 10 (of, its first three), 11 (common), 12 (closest). */
public final class TitlesTest {
    private static final String LONGEST = "abcdefghij klm nopqrs tu";

    private TitlesTest() {
    }

    public static void main(String[] args) {
        testAdd();
        testBadTitles();
        testLongestTitle();
        testSameTitle();
        testMostTitles();
        testDrop();
        testCharacter();
        testOf();
        testCommon();
        testClosest();
        Checks.end();
    }

    private static void testAdd() {
        TitleFinder finder = new TitleFinder();
        Checks.due("add()", Checks.addTitle(finder, "sea fire"), 0);
        Checks.due("the text is empty", finder.clearText(), 0);
        Checks.due("titles()", finder.titles(), 1);
        Checks.due("add()", Checks.addTitle(finder, "0"), 1);
        Checks.due("add()", Checks.addTitle(finder, "a b c d e f g h i j k l"), 2);
        Checks.due("titles()", finder.titles(), 3);
        Checks.dueText("title", Checks.titleOf(finder, 0), "sea fire");
        Checks.dueText("title", Checks.titleOf(finder, 1), "0");
        Checks.due("undo()", finder.undo(), 2);
        Checks.due("titles() after undo()", finder.titles(), 2);
    }

    private static void testBadTitles() {
        String[] texts = {"", " ", " a", "a ", "a  b", "A", "aB", "a-b", "add a;", "a;b", "a/", "a:", "`a", "a{",
            "abcdefghijklmnopqrstuvwxy", "abcdefghijklmnopqrstuvw ", "abcdefghijklmnopqrstuvw x"};
        for (String text : texts) {
            TitleFinder finder = new TitleFinder();
            Checks.due("add() of <" + text + ">", Checks.addTitle(finder, text), TitleFinder.BAD_TEXT);
            Checks.due("titles()", finder.titles(), 0);
            Checks.due("undo()", finder.undo(), TitleFinder.NOT_POSSIBLE);
            Checks.due("the text stays", finder.clearText(), text.length());
        }
    }

    private static void testLongestTitle() {
        TitleFinder finder = new TitleFinder();
        Checks.due("add() of 24 characters", Checks.addTitle(finder, LONGEST), 0);
        Checks.dueText("title", Checks.titleOf(finder, 0), LONGEST);
        Checks.due("add() of 25 characters", Checks.addTitle(finder, LONGEST + "v"), TitleFinder.BAD_TEXT);
        Checks.due("add() of 24 z", Checks.addTitle(finder, "zzzzzzzzzzzzzzzzzzzzzzzz"), 1);
        Checks.due("add() of 22, a blank and 1", Checks.addTitle(finder, "zzzzzzzzzzzzzzzzzzzzzz z"), 2);
    }

    private static void testSameTitle() {
        TitleFinder finder = Checks.withTitles("sea", "fire");
        Checks.due("add() again", Checks.addTitle(finder, "sea"), TitleFinder.NOT_POSSIBLE);
        Checks.due("the text stays", finder.clearText(), 3);
        Checks.due("add() of the last one again", Checks.addTitle(finder, "fire"), TitleFinder.NOT_POSSIBLE);
        Checks.due("add() of a beginning", Checks.addTitle(finder, "fir"), 2);
        Checks.due("add() of a longer one", Checks.addTitle(finder, "fires"), 3);
        Checks.due("undo()", finder.undo(), 3);
        finder.drop(0);
        Checks.due("add() after drop", Checks.addTitle(finder, "sea"), 2);
    }

    private static TitleFinder full() {
        TitleFinder finder = new TitleFinder();
        for (char letter = 'a'; letter < 'a' + 16; letter++) {
            Checks.addTitle(finder, "" + letter);
        }
        return finder;
    }

    private static void testMostTitles() {
        TitleFinder finder = full();
        Checks.due("titles()", finder.titles(), 16);
        Checks.due("add() of a 17th", Checks.addTitle(finder, "q"), TitleFinder.LIMIT);
        Checks.due("the text stays", finder.clearText(), 1);
        Checks.due("add() of an old one", Checks.addTitle(finder, "p"), TitleFinder.NOT_POSSIBLE);
        Checks.due("add() of no title", Checks.addTitle(finder, "p "), TitleFinder.BAD_TEXT);
        Checks.due("titles()", finder.titles(), 16);
        Checks.due("drop(0)", finder.drop(0), 15);
        Checks.due("add() then", Checks.addTitle(finder, "q"), 15);
    }

    private static void testDrop() {
        TitleFinder finder = Checks.withTitles("a", "b", "c", "d");
        finder.pick(2);
        int[] wrong = {-1, 4, Integer.MIN_VALUE, Integer.MAX_VALUE};
        for (int title : wrong) {
            Checks.due("drop(" + title + ")", finder.drop(title), TitleFinder.NO_SUCH);
        }
        Checks.due("titles()", finder.titles(), 4);
        Checks.due("drop(1)", finder.drop(1), 3);
        Checks.dueText("title 0", Checks.titleOf(finder, 0), "a");
        Checks.dueText("title 1", Checks.titleOf(finder, 1), "c");
        Checks.dueText("title 2", Checks.titleOf(finder, 2), "d");
        Checks.due("the uses go along", finder.of(1, 2), 1);
        Checks.due("drop(3)", finder.drop(3), TitleFinder.NO_SUCH);
        Checks.due("drop(2)", finder.drop(2), 2);
        Checks.due("drop(0)", finder.drop(0), 1);
        Checks.due("drop(0)", finder.drop(0), 0);
        Checks.due("drop(0)", finder.drop(0), TitleFinder.NO_SUCH);
        Checks.due("undo()", finder.undo(), 5);
        Checks.dueText("title 0 after undo()", Checks.titleOf(finder, 0), "c");
    }

    private static void testCharacter() {
        TitleFinder finder = Checks.withTitles("a 0", "z9");
        Checks.due("character(0, 0)", finder.character(0, 0), 97);
        Checks.due("character(0, 1)", finder.character(0, 1), 32);
        Checks.due("character(0, 2)", finder.character(0, 2), 48);
        Checks.due("character(0, 3)", finder.character(0, 3), TitleFinder.NO_SUCH);
        Checks.due("character(0, -1)", finder.character(0, -1), TitleFinder.NO_SUCH);
        Checks.due("character(1, 0)", finder.character(1, 0), 122);
        Checks.due("character(1, 1)", finder.character(1, 1), 57);
        Checks.due("character(1, 2)", finder.character(1, 2), TitleFinder.NO_SUCH);
        Checks.due("character(2, 0)", finder.character(2, 0), TitleFinder.NO_SUCH);
        Checks.due("character(-1, 0)", finder.character(-1, 0), TitleFinder.NO_SUCH);
        Checks.due("character(MAX, MAX)", finder.character(Integer.MAX_VALUE, Integer.MAX_VALUE), TitleFinder.NO_SUCH);
        Checks.due("character(0, MIN)", finder.character(0, Integer.MIN_VALUE), TitleFinder.NO_SUCH);
    }

    private static void testOf() {
        TitleFinder finder = Checks.withTitles("a", "sea fire", LONGEST, "a b c d e f g h i j k l");
        int[] lengths = {1, 8, 24, 23};
        int[] words = {1, 2, 4, 12};
        for (int title = 0; title < 4; title++) {
            Checks.due("of(" + title + ", 0)", finder.of(title, 0), lengths[title]);
            Checks.due("of(" + title + ", 1)", finder.of(title, 1), words[title]);
            Checks.due("of(" + title + ", 2)", finder.of(title, 2), 0);
        }
        finder.pick(1);
        finder.pick(1);
        Checks.due("uses of the title picked twice", finder.of(1, 2), 2);
        Checks.due("uses of another one", finder.of(0, 2), 0);
        Checks.due("of(0, 7)", finder.of(0, 7), TitleFinder.BAD_VALUE);
        Checks.due("of(0, -1)", finder.of(0, -1), TitleFinder.BAD_VALUE);
        Checks.due("of(0, MIN)", finder.of(0, Integer.MIN_VALUE), TitleFinder.BAD_VALUE);
        Checks.due("of(4, 0)", finder.of(4, 0), TitleFinder.NO_SUCH);
        Checks.due("of(-1, 0)", finder.of(-1, 0), TitleFinder.NO_SUCH);
        Checks.due("of(4, 7)", finder.of(4, 7), TitleFinder.NO_SUCH);
    }

    private static void testCommon() {
        TitleFinder finder = Checks.withTitles("a b c", "z b z", "abc", "xbcy", "q", "b c");
        Checks.due("blanks at both ends", finder.common(0, 1), 3);
        Checks.due("the other way round", finder.common(1, 0), 3);
        Checks.due("common(0, 2)", finder.common(0, 2), 1);
        Checks.due("common(2, 3)", finder.common(2, 3), 2);
        Checks.due("common(0, 5)", finder.common(0, 5), 3);
        Checks.due("nothing in common", finder.common(0, 4), 0);
        Checks.due("with itself", finder.common(0, 0), 5);
        Checks.due("common(0, 6)", finder.common(0, 6), TitleFinder.NO_SUCH);
        Checks.due("common(6, 0)", finder.common(6, 0), TitleFinder.NO_SUCH);
        Checks.due("common(-1, 0)", finder.common(-1, 0), TitleFinder.NO_SUCH);
        Checks.due("common(0, -1)", finder.common(0, -1), TitleFinder.NO_SUCH);
        for (int mode = 0; mode < 4; mode++) {
            finder.setMode(mode);
            Checks.due("in mode " + mode, finder.common(2, 3), 2);
        }
        TitleFinder longest = Checks.withTitles(LONGEST, LONGEST.substring(1) + "q");
        Checks.due("23 in common", longest.common(0, 1), 23);
        Checks.due("24 in common", longest.common(1, 1), 24);
    }

    private static void testClosest() {
        TitleFinder finder = Checks.withTitles("abc");
        Checks.due("no other title", finder.closest(0), TitleFinder.NONE);
        Checks.due("closest(1)", finder.closest(1), TitleFinder.NO_SUCH);
        Checks.due("closest(-1)", finder.closest(-1), TitleFinder.NO_SUCH);
        Checks.addTitle(finder, "bcd");
        Checks.addTitle(finder, "xyz");
        Checks.addTitle(finder, "cd");
        Checks.due("closest(0)", finder.closest(0), 1);
        Checks.due("the lowest of two", finder.closest(1), 0);
        Checks.due("nothing in common", finder.closest(2), 0);
        Checks.due("closest(3)", finder.closest(3), 1);
        Checks.due("closest(4)", finder.closest(4), TitleFinder.NO_SUCH);
        finder.drop(1);
        Checks.due("closest(0) after drop", finder.closest(0), 2);
        TitleFinder apart = Checks.withTitles("a", "b");
        Checks.due("the other one, with nothing in common", apart.closest(0), 1);
    }
}
