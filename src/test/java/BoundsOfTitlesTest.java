import java.util.function.ToLongFunction;

/** One test for each sentence of promises 1 (a new object) and 6 (add) to 15 (ifAdded) that names a bound. */
public final class BoundsOfTitlesTest {
    private static final int NO_SUCH = TitleFinder.NO_SUCH;
    private static final int BAD_VALUE = TitleFinder.BAD_VALUE;
    private static final int NOT_POSSIBLE = TitleFinder.NOT_POSSIBLE;
    private static final int LIMIT = TitleFinder.LIMIT;
    private static final int BAD_TEXT = TitleFinder.BAD_TEXT;
    private static final int NONE = TitleFinder.NONE;
    private static final String[] NO_TITLES = {"", " ", " a", "a ", "a  b", "A", "a;", "add a;b", "a-b",
        "abcdefghijklmnopqrstuvwxy", "abcdefghijklmnopqrstuvw ", "abcdefghijklmnopqrstuvw x"};

    private BoundsOfTitlesTest() {
    }

    public static void main(String[] args) {
        testNewObject();
        testAddMakesTextEmpty();
        testNumberOfAdded();
        testAddOfNoTitle();
        testAddOfOldTitle();
        testAddOfTooMany();
        testTitlesLeft();
        testDropOfNoSuch();
        testNumberOfTitles();
        testCharacterCode();
        testCharacterOfNoSuch();
        testNumbersOfTitle();
        testOfNoSuch();
        testOfBadValue();
        testOfWithoutKey();
        testOfWithoutShortcut();
        testLongestRun();
        testBlanksOfRun();
        testModeAndRun();
        testCommonOfNoSuch();
        testClosest();
        testClosestOfSeveral();
        testClosestOfNoSuch();
        testClosestOfOne();
        testUnknown();
        testHardest();
        testHardestOfSeveral();
        testHardestOfNone();
        testIfAdded();
        testIfAddedStart();
        testIfAddedLength();
        testIfAddedNone();
        testIfAddedOfNoTitle();
        testIfAddedOfOldTitle();
        testIfAddedOfTooMany();
        Checks.end();
    }

    // ---- promise 1: a new object

    private static void testNewObject() {
        Checks.sentence("Creates a search box without titles and with an empty query.");
        TitleFinder finder = new TitleFinder();
        Checks.due("titles()", finder.titles(), 0);
        Checks.due("character(0, 0)", finder.character(0, 0), NO_SUCH);
        Checks.due("of(0, 0)", finder.of(0, 0), NO_SUCH);
        Checks.due("common(0, 0)", finder.common(0, 0), NO_SUCH);
        Checks.due("closest(0)", finder.closest(0), NO_SUCH);
        Checks.due("drop(0)", finder.drop(0), NO_SUCH);
        Checks.due("queryLength()", finder.queryLength(), 0);
        Checks.due("queryCharacter(0)", finder.queryCharacter(0), NO_SUCH);
        Checks.due("erase()", finder.erase(), NOT_POSSIBLE);
        Checks.due("results()", finder.results(), 0);
        Checks.due("result(0)", finder.result(0), NO_SUCH);
        Checks.due("matchPlace(0)", finder.matchPlace(0), NO_SUCH);
        Checks.due("pick(0)", finder.pick(0), NO_SUCH);
        Checks.due("undo()", finder.undo(), NOT_POSSIBLE);
    }

    // ---- promise 6: add

    private static void testAddMakesTextEmpty() {
        Checks.sentence("Adds the title in the text, and makes the text empty.");
        TitleFinder finder = new TitleFinder();
        Checks.addTitle(finder, "sea fire");
        Checks.dueText("title 0", Checks.titleOf(finder, 0), "sea fire");
        Checks.due("clearText()", finder.clearText(), 0);
        Checks.addTitle(finder, Checks.letters(24));
        Checks.due("add() of the empty text", finder.add(), BAD_TEXT);
        Checks.due("type(97)", finder.type(97), 1);
        Checks.due("add() of a", finder.add(), 2);
        Checks.dueText("title 2", Checks.titleOf(finder, 2), "a");
    }

    private static void testNumberOfAdded() {
        Checks.sentence("Returns the number of the title (add)");
        TitleFinder finder = new TitleFinder();
        for (int i = 0; i < 16; i++) {
            Checks.due("add()", Checks.addTitle(finder, "t" + i), i);
        }
        finder.drop(3);
        finder.drop(3);
        Checks.due("add() after two drops", Checks.addTitle(finder, "x"), 14);
    }

    private static void testAddOfNoTitle() {
        Checks.sentence("BAD_TEXT if the text is not a title (add)");
        for (String text : NO_TITLES) {
            Checks.dueRefused("add() of <" + text + ">", finder -> {
                Checks.addTitle(finder, "b");
                Checks.type(finder, text);
            }, TitleFinder::add, BAD_TEXT);
            Checks.dueRefused("add() of <" + text + "> to 16 titles", finder -> {
                Checks.runPlan(finder, "add a;add b;add c;add d;add e;add f;add g;add h");
                Checks.runPlan(finder, "add i;add j;add k;add l;add m;add n;add o;add p");
                Checks.type(finder, text);
            }, TitleFinder::add, BAD_TEXT);
        }
    }

    private static void testAddOfOldTitle() {
        Checks.sentence("NOT_POSSIBLE if there is this title already (add)");
        for (int i = 0; i < 16; i++) {
            String title = "t" + i;
            Checks.dueRefused("add() of " + title + " to 16 titles", finder -> {
                addSixteen(finder);
                Checks.type(finder, title);
            }, TitleFinder::add, NOT_POSSIBLE);
        }
        TitleFinder finder = Checks.withTitles("ab", "c d");
        Checks.due("add() of ab", Checks.addTitle(finder, "ab"), NOT_POSSIBLE);
        Checks.due("add() of c d", Checks.addTitle(finder, "c d"), NOT_POSSIBLE);
        Checks.due("clearText()", finder.clearText(), 3);
        Checks.due("add() of a beginning", Checks.addTitle(finder, "a"), 2);
        Checks.due("add() of a longer one", Checks.addTitle(finder, "abc"), 3);
        Checks.due("add() of one without the blank", Checks.addTitle(finder, "cd"), 4);
        finder.drop(0);
        Checks.due("add() of ab after drop(0)", Checks.addTitle(finder, "ab"), 4);
    }

    private static void addSixteen(TitleFinder finder) {
        for (int i = 0; i < 16; i++) {
            Checks.addTitle(finder, "t" + i);
        }
    }

    private static void testAddOfTooMany() {
        Checks.sentence("LIMIT if there are 16 titles (add)");
        Checks.dueRefused("add() of a 17th", finder -> {
            addSixteen(finder);
            Checks.type(finder, "x");
        }, TitleFinder::add, LIMIT);
        TitleFinder finder = Checks.withCount(15);
        Checks.due("add() of a 16th", Checks.addTitle(finder, "x"), 15);
        Checks.due("add() of a 17th", Checks.addTitle(finder, "y"), LIMIT);
        Checks.due("clearText()", finder.clearText(), 1);
    }

    // ---- promises 7 to 9: drop, titles, character

    private static void testTitlesLeft() {
        Checks.sentence("Returns the number of titles that are left");
        TitleFinder finder = Checks.withCount(16);
        for (int left = 15; left >= 0; left--) {
            Checks.due("drop(" + left / 2 + ")", finder.drop(left / 2), left);
        }
        Checks.due("drop(0) of none", finder.drop(0), NO_SUCH);
    }

    private static void testDropOfNoSuch() {
        Checks.sentence("NO_SUCH if there is no such title (drop)");
        for (int title : new int[] {-1, 2, 15, 16, Integer.MIN_VALUE, Integer.MAX_VALUE}) {
            dueRefusedOfTwo("drop(" + title + ")", finder -> finder.drop(title), NO_SUCH);
        }
        TitleFinder finder = Checks.withCount(16);
        Checks.due("drop(16) of 16", finder.drop(16), NO_SUCH);
        Checks.due("drop(15) of 16", finder.drop(15), 15);
        Checks.due("drop(15) of 15", finder.drop(15), NO_SUCH);
    }

    private static void dueRefusedOfTwo(String call, ToLongFunction<TitleFinder> refused, int want) {
        Checks.dueRefused(call, BoundsOfTitlesTest::makeTwo, refused, want);
    }

    private static void makeTwo(TitleFinder finder) {
        Checks.addTitle(finder, "sea fire");
        Checks.addTitle(finder, "fire");
        Checks.ask(finder, "fi");
        Checks.type(finder, "add x;ask x");
    }

    private static void testNumberOfTitles() {
        Checks.sentence("Returns the number of titles.");
        TitleFinder finder = new TitleFinder();
        for (int i = 0; i < 16; i++) {
            Checks.due("titles()", finder.titles(), i);
            Checks.addTitle(finder, "t" + i);
        }
        Checks.due("titles()", finder.titles(), 16);
        Checks.addTitle(finder, "t16");
        Checks.due("titles() after add() that was refused", finder.titles(), 16);
        Checks.ask(finder, "x");
        Checks.due("titles() without results", finder.titles(), 16);
    }

    private static void testCharacterCode() {
        Checks.sentence("Returns the character code (0 for its first character)");
        String longest = "az 09 cdefghijklmnopqrst";
        TitleFinder finder = Checks.withTitles("b", longest);
        for (int place = 0; place < 24; place++) {
            Checks.due("character(1, " + place + ")", finder.character(1, place), longest.charAt(place));
        }
        Checks.due("character(0, 0)", finder.character(0, 0), 98);
    }

    private static void testCharacterOfNoSuch() {
        Checks.sentence("NO_SUCH if there is no such title or place");
        TitleFinder finder = Checks.withTitles("b", Checks.letters(24));
        int[] places = {-1, 24, 25, Integer.MIN_VALUE, Integer.MAX_VALUE};
        for (int place : places) {
            Checks.due("character(1, " + place + ")", finder.character(1, place), NO_SUCH);
        }
        Checks.due("character(0, 1)", finder.character(0, 1), NO_SUCH);
        for (int title : new int[] {-1, 2, 16, Integer.MIN_VALUE, Integer.MAX_VALUE}) {
            Checks.due("character(" + title + ", 0)", finder.character(title, 0), NO_SUCH);
            Checks.due("character(" + title + ", -1)", finder.character(title, -1), NO_SUCH);
            dueRefusedOfTwo("character(" + title + ", 0)", box -> box.character(title, 0), NO_SUCH);
        }
        finder.drop(0);
        Checks.due("character(1, 0) after drop(0)", finder.character(1, 0), NO_SUCH);
    }

    // ---- promise 10: of

    private static void testNumbersOfTitle() {
        Checks.sentence("0 for its length, 1 for its number of words, 2 for its uses, 3 for the start of its key,"
                + " 4 for the length of its key, 5 for the start of its best shortcut,"
                + " 6 for the length of its best shortcut");
        TitleFinder finder = Checks.withTitles("abcx e e", "a", "zzzabc e e", "zx");
        for (int i = 0; i < 5; i++) {
            finder.pick(2);
        }
        // Its key is "cx"; its best shortcut is "b", as "a" finds the shorter title first.
        int[] want = {8, 3, 5, 2, 2, 1, 1};
        for (int what = 0; what < want.length; what++) {
            Checks.due("of(0, " + what + ")", finder.of(0, what), want[what]);
        }
        String[] titles = {"0", "a b", "a b c d e f g h i j k l", Checks.letters(24), Checks.letters(22) + " z"};
        int[] lengths = {1, 3, 23, 24, 24};
        int[] words = {1, 2, 12, 1, 2};
        for (int i = 0; i < titles.length; i++) {
            Checks.due("of(0, 0) of " + titles[i], Checks.withTitles(titles[i]).of(0, 0), lengths[i]);
            Checks.due("of(0, 1) of " + titles[i], Checks.withTitles(titles[i]).of(0, 1), words[i]);
            Checks.due("of(0, 2) of " + titles[i], Checks.withTitles(titles[i]).of(0, 2), 0);
        }
    }

    private static void testOfNoSuch() {
        Checks.sentence("NO_SUCH if there is no such title (of)");
        for (int title : new int[] {-1, 2, 16, Integer.MIN_VALUE, Integer.MAX_VALUE}) {
            for (int what = 0; what <= 6; what++) {
                TitleFinder finder = Checks.withTitles("a", "b");
                Checks.due("of(" + title + ", " + what + ")", finder.of(title, what), NO_SUCH);
            }
            dueRefusedOfTwo("of(" + title + ", 7)", box -> box.of(title, 7), NO_SUCH);
            dueRefusedOfTwo("of(" + title + ", -1)", box -> box.of(title, -1), NO_SUCH);
        }
        Checks.due("of(0, 0) of none", new TitleFinder().of(0, 0), NO_SUCH);
        Checks.due("of(15, 0) of 16", Checks.withCount(16).of(15, 0), 3);
        Checks.due("of(16, 0) of 16", Checks.withCount(16).of(16, 0), NO_SUCH);
    }

    private static void testOfBadValue() {
        Checks.sentence("BAD_VALUE if what is out of range");
        for (int what : new int[] {-1, 7, 8, Integer.MIN_VALUE, Integer.MAX_VALUE}) {
            dueRefusedOfTwo("of(1, " + what + ")", box -> box.of(1, what), BAD_VALUE);
        }
    }

    private static void testOfWithoutKey() {
        Checks.sentence("NONE if it has no key");
        TitleFinder finder = Checks.withTitles("a", "ab");
        Checks.due("of(0, 3)", finder.of(0, 3), NONE);
        Checks.due("of(0, 4)", finder.of(0, 4), NONE);
        Checks.due("of(0, 5)", finder.of(0, 5), 0);
        Checks.due("of(0, 6)", finder.of(0, 6), 1);
        Checks.due("of(0, 7)", finder.of(0, 7), BAD_VALUE);
        Checks.due("of(1, 3)", finder.of(1, 3), 1);
        finder.drop(1);
        Checks.due("of(0, 3) after drop(1)", finder.of(0, 3), 0);
        Checks.due("of(0, 4) after drop(1)", finder.of(0, 4), 1);
    }

    private static void testOfWithoutShortcut() {
        Checks.sentence("NONE if it has no key, or no shortcut.");
        TitleFinder finder = Checks.withTitles("b", "ab");
        finder.setOrder(2);
        Checks.due("of(0, 5)", finder.of(0, 5), NONE);
        Checks.due("of(0, 6)", finder.of(0, 6), NONE);
        Checks.due("of(1, 5)", finder.of(1, 5), 0);
        Checks.due("of(1, 6)", finder.of(1, 6), 1);
        finder.setMode(1);
        Checks.due("of(0, 5) in mode 1", finder.of(0, 5), 0);
        Checks.due("of(0, 6) in mode 1", finder.of(0, 6), 1);
    }

    // ---- promises 11 and 12: common, closest

    private static void testLongestRun() {
        Checks.sentence("Returns the length of the longest run of characters that two titles have in common");
        String longest = Checks.letters(24);
        TitleFinder finder = Checks.withTitles("abc", "xyz", "zab", "bcab", longest, longest.substring(1) + "0", "c");
        int[] withFirst = {3, 0, 2, 2, 3, 2, 1};
        for (int title = 0; title < withFirst.length; title++) {
            Checks.due("common(0, " + title + ")", finder.common(0, title), withFirst[title]);
            Checks.due("common(" + title + ", 0)", finder.common(title, 0), withFirst[title]);
        }
        Checks.due("common(4, 5)", finder.common(4, 5), 23);
        Checks.due("common(4, 4)", finder.common(4, 4), 24);
        Checks.due("common(6, 6)", finder.common(6, 6), 1);
    }

    private static void testBlanksOfRun() {
        Checks.sentence("blanks at its ends included");
        TitleFinder finder = Checks.withTitles("a b c", "x b y", "z by", "zb y", "q r");
        Checks.due("blanks at both ends", finder.common(0, 1), 3);
        Checks.due("a blank at its beginning", finder.common(0, 2), 2);
        Checks.due("a blank at its end", finder.common(0, 3), 2);
        Checks.due("a blank alone", finder.common(0, 4), 1);
    }

    private static void testModeAndRun() {
        Checks.sentence("the mode does not matter");
        TitleFinder finder = Checks.withTitles("abcd e", "xbcd", "z");
        for (int mode = 0; mode < 4; mode++) {
            finder.setMode(mode);
            Checks.due("common(0, 1) in mode " + mode, finder.common(0, 1), 3);
            Checks.due("common(0, 0) in mode " + mode, finder.common(0, 0), 6);
            Checks.due("closest(0) in mode " + mode, finder.closest(0), 1);
        }
    }

    private static void testCommonOfNoSuch() {
        Checks.sentence("NO_SUCH if there is no such title (common)");
        for (int title : new int[] {-1, 2, 16, Integer.MIN_VALUE, Integer.MAX_VALUE}) {
            dueRefusedOfTwo("common(" + title + ", 0)", box -> box.common(title, 0), NO_SUCH);
            dueRefusedOfTwo("common(0, " + title + ")", box -> box.common(0, title), NO_SUCH);
            dueRefusedOfTwo("common of both", box -> box.common(title, title), NO_SUCH);
        }
        Checks.due("common(15, 0) of 16", Checks.withCount(16).common(15, 0), 1);
        Checks.due("common(0, 15) of 16", Checks.withCount(16).common(0, 15), 1);
    }

    private static void testClosest() {
        Checks.sentence("Finds the other title that has the longest run of characters in common with a title");
        TitleFinder finder = Checks.withTitles("abcdef", "abx", "bcdex", "xcdef", "abcdex");
        Checks.due("closest(0)", finder.closest(0), 4);
        Checks.due("closest(4)", finder.closest(4), 0);
        Checks.due("closest(3)", finder.closest(3), 0);
        Checks.due("closest(1)", finder.closest(1), 0);
        finder.drop(4);
        Checks.due("closest(0) after drop(4)", finder.closest(0), 2);
        TitleFinder blanks = Checks.withTitles("a b c", "bx", "z b z");
        Checks.due("closest(0) by the blanks", blanks.closest(0), 2);
    }

    private static void testClosestOfSeveral() {
        Checks.sentence("of several the one with the lowest number");
        TitleFinder finder = Checks.withTitles("zab", "abz", "qab", "ab");
        Checks.due("closest(3)", finder.closest(3), 0);
        Checks.due("closest(0), itself not counted", finder.closest(0), 1);
        Checks.due("closest(2)", finder.closest(2), 0);
        TitleFinder apart = Checks.withTitles("a", "b", "c");
        Checks.due("closest(0), nothing in common", apart.closest(0), 1);
        Checks.due("closest(2), nothing in common", apart.closest(2), 0);
    }

    private static void testClosestOfNoSuch() {
        Checks.sentence("NO_SUCH if there is no such title (closest)");
        for (int title : new int[] {-1, 2, 16, Integer.MIN_VALUE, Integer.MAX_VALUE}) {
            dueRefusedOfTwo("closest(" + title + ")", box -> box.closest(title), NO_SUCH);
        }
        Checks.due("closest(0) of none", new TitleFinder().closest(0), NO_SUCH);
        Checks.due("closest(1) of one", Checks.withTitles("a").closest(1), NO_SUCH);
        Checks.due("closest(15) of 16", Checks.withCount(16).closest(15), 1);
    }

    private static void testClosestOfOne() {
        Checks.sentence("NONE if there is no other title");
        TitleFinder finder = Checks.withTitles("a", "b");
        Checks.due("closest(0) of two", finder.closest(0), 1);
        Checks.due("closest(1) of two", finder.closest(1), 0);
        finder.drop(0);
        Checks.due("closest(0) of one", finder.closest(0), NONE);
    }

    // ---- promises 13 and 14: unknown, hardest

    private static void testUnknown() {
        Checks.sentence("Returns the number of titles without a key.");
        TitleFinder finder = new TitleFinder();
        Checks.due("unknown() of none", finder.unknown(), 0);
        Checks.addTitle(finder, "a");
        Checks.due("unknown() of one", finder.unknown(), 0);
        Checks.addTitle(finder, "ab");
        Checks.due("unknown() of two", finder.unknown(), 1);
        finder.setMode(3);
        Checks.due("all of them", finder.unknown(), 2);
        for (int i = 0; i < 14; i++) {
            Checks.addTitle(finder, "a" + i);
        }
        Checks.due("all 16 of them", finder.unknown(), 16);
        finder.setMode(0);
        // "a" is in all of them, and "a1" in "a10" to "a13".
        Checks.due("unknown() in mode 0", finder.unknown(), 2);
    }

    private static void testHardest() {
        Checks.sentence("Returns the title with the longest key");
        TitleFinder finder = Checks.withTitles("q", "ab", "ba", "abba", "x");
        // The keys are "q", none, none, "bb" and "x".
        Checks.due("hardest()", finder.hardest(), 3);
        finder.setMode(1);
        // The keys are "q", none, "b", "abb" and "x".
        Checks.due("hardest() in mode 1", finder.hardest(), 3);
        finder.drop(3);
        // The keys are "q", "a", "b" and "x".
        Checks.due("hardest() after drop(3)", finder.hardest(), 0);
        TitleFinder last = Checks.withCount(16);
        Checks.runPlan(last, "drop 15;add 1 1");
        Checks.due("hardest() of 16", last.hardest(), 15);
    }

    private static void testHardestOfSeveral() {
        Checks.sentence("the one with the lowest number of several");
        TitleFinder finder = Checks.withTitles("x", "ab", "ba", "bb", "aa");
        for (int title = 1; title < 5; title++) {
            Checks.due("length of the key of " + title, finder.of(title, 4), 2);
        }
        Checks.due("hardest()", finder.hardest(), 1);
        finder.drop(0);
        Checks.due("hardest() after drop(0)", finder.hardest(), 0);
        Checks.due("hardest() of two", Checks.withTitles("a", "b").hardest(), 0);
    }

    private static void testHardestOfNone() {
        Checks.sentence("NONE if no title has a key");
        Checks.due("hardest() of none", new TitleFinder().hardest(), NONE);
        TitleFinder finder = Checks.withTitles("ab", "ac", "a0");
        finder.setMode(3);
        Checks.due("hardest()", finder.hardest(), NONE);
        Checks.addTitle(finder, "b");
        Checks.due("hardest() with one key", finder.hardest(), 3);
        Checks.due("hardest() of one title", Checks.withTitles("a").hardest(), 0);
    }

    // ---- promise 15: ifAdded

    private static void testIfAdded() {
        Checks.sentence("Tells how many of the titles that there are would have another key");
        TitleFinder finder = Checks.withTitles("ab", "cd", "ef");
        Checks.due("none of them", Checks.ifAdded(finder, "x"), 0);
        Checks.due("one of them", Checks.ifAdded(finder, "a"), 1);
        Checks.due("two of them", Checks.ifAdded(finder, "ac"), 2);
        Checks.due("all of them", Checks.ifAdded(finder, "a c e"), 3);
        Checks.due("not their second characters", Checks.ifAdded(finder, "b d f"), 0);
        Checks.due("nothing is changed", finder.titles(), 3);
        Checks.due("the text stays", finder.clearText(), 5);
        Checks.due("no state is saved", finder.undo(), 2);
        Checks.due("ifAdded() without titles", Checks.ifAdded(new TitleFinder(), "x"), 0);
        Checks.due("no key as before", Checks.ifAdded(Checks.withTitles("a", "ab"), "a a"), 0);
    }

    private static void testIfAddedStart() {
        Checks.sentence("another start");
        TitleFinder finder = Checks.withTitles("ab");
        Checks.dueKey("before", finder, 0, 0, 1);
        Checks.due("ifAdded() of a", Checks.ifAdded(finder, "a"), 1);
        Checks.due("ifAdded() of b", Checks.ifAdded(finder, "b"), 0);
        finder.add();
        Checks.dueKey("with b", finder, 0, 0, 1);
        finder.undo();
        Checks.addTitle(finder, "a");
        Checks.dueKey("with a", finder, 0, 1, 1);
    }

    private static void testIfAddedLength() {
        Checks.sentence("another length");
        TitleFinder finder = Checks.withTitles("ab");
        Checks.due("ifAdded() of ba", Checks.ifAdded(finder, "ba"), 1);
        finder.add();
        Checks.dueKey("with ba", finder, 0, 0, 2);
        TitleFinder longest = Checks.withTitles(Checks.letters(24));
        longest.setMode(1);
        Checks.due("ifAdded() of 23", Checks.ifAdded(longest, Checks.letters(23)), 1);
        longest.add();
        Checks.dueKey("with 23", longest, 0, 0, 24);
    }

    private static void testIfAddedNone() {
        Checks.sentence("or none instead of one");
        TitleFinder finder = Checks.withTitles("a", "b");
        Checks.due("ifAdded() of ab", Checks.ifAdded(finder, "ab"), 2);
        Checks.due("ifAdded() of xa", Checks.ifAdded(finder, "xa"), 1);
        finder.setMode(1);
        Checks.due("ifAdded() of xa in mode 1", Checks.ifAdded(finder, "xa"), 0);
        finder.setMode(2);
        Checks.due("ifAdded() of x a in mode 2", Checks.ifAdded(finder, "x a"), 1);
        finder.setMode(3);
        Checks.due("ifAdded() of x axx in mode 3", Checks.ifAdded(finder, "x axx"), 1);
        finder.add();
        Checks.dueKey("with x axx", finder, 0, NONE, NONE);
    }

    private static void testIfAddedOfNoTitle() {
        Checks.sentence("BAD_TEXT if the text is not a title (ifAdded)");
        for (String text : NO_TITLES) {
            Checks.dueRefused("ifAdded() of <" + text + ">", finder -> Checks.write(finder, text),
                    TitleFinder::ifAdded, BAD_TEXT);
            Checks.dueRefused("ifAdded() of <" + text + "> with 16 titles", finder -> {
                addSixteen(finder);
                Checks.type(finder, text);
            }, TitleFinder::ifAdded, BAD_TEXT);
        }
    }

    private static void testIfAddedOfOldTitle() {
        Checks.sentence("NOT_POSSIBLE if there is this title already (ifAdded)");
        for (int i = 0; i < 16; i++) {
            String title = "t" + i;
            Checks.dueRefused("ifAdded() of " + title + " with 16 titles", finder -> {
                addSixteen(finder);
                Checks.type(finder, title);
            }, TitleFinder::ifAdded, NOT_POSSIBLE);
        }
        TitleFinder finder = Checks.withTitles("ab", "c");
        Checks.due("ifAdded() of ab", Checks.ifAdded(finder, "ab"), NOT_POSSIBLE);
        Checks.due("ifAdded() of c", Checks.ifAdded(finder, "c"), NOT_POSSIBLE);
        Checks.due("ifAdded() of a beginning", Checks.ifAdded(finder, "a"), 1);
        Checks.due("ifAdded() of a longer one", Checks.ifAdded(finder, "abc"), 2);
    }

    private static void testIfAddedOfTooMany() {
        Checks.sentence("LIMIT if there are 16 titles (ifAdded)");
        Checks.dueRefused("ifAdded() of a 17th", finder -> {
            addSixteen(finder);
            Checks.type(finder, "x");
        }, TitleFinder::ifAdded, LIMIT);
        TitleFinder finder = Checks.withCount(15);
        // "t", "1", "14", "t14" and the like stay; only the "9" of "t9" is not the only one any more.
        Checks.due("ifAdded() of a 16th", Checks.ifAdded(finder, "9"), 1);
    }
}
