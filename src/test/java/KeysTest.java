/** Promises 10 (of: keys and shortcuts), 13 (unknown), 14 (hardest) and 15 (ifAdded). */
public final class KeysTest {
    private static final int NONE = TitleFinder.NONE;

    private KeysTest() {
    }

    public static void main(String[] args) {
        testKeysInEachMode();
        testKeyOfOneTitle();
        testLongestKey();
        testKeyWithBlankInside();
        testLowestStart();
        testShortcutsByPlace();
        testShortcutsByUses();
        testShortcutsByName();
        testShortcutOfInitials();
        testShortcutIsNotBoundToQuery();
        testUnknown();
        testHardest();
        testIfAdded();
        testIfAddedInModes();
        testIfAddedRefused();
        Checks.end();
    }

    private static TitleFinder reds() {
        return Checks.withTitles("red", "reds", "a red", "red a");
    }

    /** Starts and lengths, title by title. */
    private static void dueKeys(String what, TitleFinder finder, int... want) {
        for (int title = 0; 2 * title < want.length; title++) {
            Checks.dueKey(what, finder, title, want[2 * title], want[2 * title + 1]);
        }
    }

    private static void dueShortcuts(String what, TitleFinder finder, int... want) {
        for (int title = 0; 2 * title < want.length; title++) {
            Checks.dueShortcut(what, finder, title, want[2 * title], want[2 * title + 1]);
        }
    }

    private static void testKeysInEachMode() {
        TitleFinder finder = reds();
        dueKeys("mode 0", finder, NONE, NONE, 3, 1, 0, 3, 2, 3);
        finder.setMode(1);
        dueKeys("mode 1", finder, NONE, NONE, 0, 4, 0, 1, 0, 5);
        finder.setMode(2);
        dueKeys("mode 2", finder, NONE, NONE, 0, 4, 0, 3, 0, 5);
        finder.setMode(3);
        dueKeys("mode 3", finder, NONE, NONE, NONE, NONE, 0, 2, 0, 2);
        finder.setMode(0);
        finder.setOrder(2);
        dueKeys("the order does not matter", finder, NONE, NONE, 3, 1, 0, 3, 2, 3);
    }

    private static void testKeyOfOneTitle() {
        TitleFinder finder = Checks.withTitles("sea fire");
        for (int mode = 0; mode < 4; mode++) {
            finder.setMode(mode);
            dueKeys("alone in mode " + mode, finder, 0, 1);
            dueShortcuts("alone in mode " + mode, finder, 0, 1);
        }
    }

    private static void testLongestKey() {
        TitleFinder finder = Checks.withTitles("abcdefghijklmnopqrstuvwx", "abcdefghijklmnopqrstuvwy");
        finder.setMode(1);
        dueKeys("24 characters", finder, 0, 24, 0, 24);
        dueShortcuts("24 characters", finder, 0, 1, 0, 24);
        finder.setMode(3);
        dueKeys("24 characters, one initial", finder, NONE, NONE, NONE, NONE);
        TitleFinder initials = Checks.withTitles("a a a a a a a a a a a b", "a a a a a a a a a a a a");
        initials.setMode(3);
        dueKeys("twelve initials", initials, 11, 1, 0, 12);
    }

    private static void testKeyWithBlankInside() {
        TitleFinder finder = Checks.withTitles("sea fire", "fire sea");
        dueKeys("mode 0", finder, 2, 3, 3, 3);
        finder.setMode(2);
        dueKeys("mode 2", finder, 0, 5, 0, 6);
        finder.setMode(3);
        dueKeys("mode 3", finder, 0, 2, 0, 2);
    }

    private static void testLowestStart() {
        TitleFinder finder = Checks.withTitles("abxbx ax", "ab", "ax");
        dueKeys("of two starts", finder, 1, 2);
        finder.setMode(2);
        Checks.runPlan(finder, "drop 0;add a yy zz");
        dueKeys("of two words", finder, 0, 2, 0, 2, 2, 1);
    }

    private static void testShortcutsByPlace() {
        TitleFinder finder = reds();
        dueShortcuts("mode 0", finder, 0, 1, 3, 1, 0, 1, 2, 3);
        finder.setMode(1);
        dueShortcuts("mode 1", finder, 0, 1, 0, 4, 0, 1, 0, 5);
        finder.setMode(2);
        dueShortcuts("mode 2", finder, 0, 1, 0, 4, 0, 1, 0, 5);
        finder.setMode(3);
        dueShortcuts("mode 3", finder, 0, 1, NONE, NONE, 0, 1, 0, 2);
        // The place of the match, not the start of the piece, is what counts.
        TitleFinder twice = Checks.withTitles("bca", "xxb bca");
        dueShortcuts("twice", twice, 0, 1, 0, 1);
        // Both match at place 0 and are as long: the lower number comes first.
        TitleFinder equal = Checks.withTitles("ab", "ac");
        dueShortcuts("as long", equal, 0, 1, 1, 1);
    }

    private static void testShortcutsByUses() {
        TitleFinder finder = reds();
        finder.setOrder(1);
        dueShortcuts("without uses", finder, 0, 1, 3, 1, 0, 1, 2, 3);
        finder.pick(3);
        Checks.due("uses of 2", finder.of(2, 2), 0);
        finder.undo();
        Checks.ask(finder, "d a");
        finder.pick(0);
        Checks.due("uses of 3", finder.of(3, 2), 1);
        dueShortcuts("red a used", finder, NONE, NONE, 3, 1, 0, 3, 0, 1);
        finder.setOrder(0);
        dueShortcuts("by place again", finder, 0, 1, 3, 1, 0, 1, 2, 3);
    }

    private static void testShortcutsByName() {
        TitleFinder finder = reds();
        finder.setOrder(2);
        dueShortcuts("by name", finder, NONE, NONE, 3, 1, 0, 1, 2, 3);
    }

    private static void testShortcutOfInitials() {
        TitleFinder finder = Checks.withTitles("b a", "a c", "a ccc");
        finder.setMode(3);
        dueShortcuts("by place", finder, 0, 1, 0, 1, NONE, NONE);
        finder.setOrder(2);
        dueShortcuts("by name", finder, 0, 1, 0, 1, NONE, NONE);
        finder.setOrder(1);
        Checks.ask(finder, "c");
        finder.pick(1);
        dueShortcuts("by uses", finder, 0, 1, NONE, NONE, 0, 1);
    }

    private static void testShortcutIsNotBoundToQuery() {
        TitleFinder finder = reds();
        Checks.ask(finder, "s");
        dueShortcuts("with a query", finder, 0, 1, 3, 1, 0, 1, 2, 3);
        dueKeys("with a query", finder, NONE, NONE, 3, 1, 0, 3, 2, 3);
        Checks.dueText("the query stays", Checks.queryOf(finder), "s");
    }

    private static void testUnknown() {
        TitleFinder finder = reds();
        int[] want = {1, 1, 1, 2};
        for (int mode = 0; mode < 4; mode++) {
            finder.setMode(mode);
            Checks.due("unknown() in mode " + mode, finder.unknown(), want[mode]);
        }
        TitleFinder three = Checks.withTitles("a", "ab", "b");
        Checks.due("unknown()", three.unknown(), 2);
        three.drop(1);
        Checks.due("unknown() after drop", three.unknown(), 0);
        Checks.due("unknown() without titles", new TitleFinder().unknown(), 0);
    }

    private static void testHardest() {
        TitleFinder finder = reds();
        int[] want = {2, 3, 3, 2};
        for (int mode = 0; mode < 4; mode++) {
            finder.setMode(mode);
            Checks.due("hardest() in mode " + mode, finder.hardest(), want[mode]);
        }
        TitleFinder none = Checks.withTitles("a b", "a c", "ab");
        none.setMode(3);
        Checks.due("hardest() of two", none.hardest(), 0);
        none.drop(1);
        none.drop(0);
        Checks.addTitle(none, "ac");
        Checks.due("hardest() if no title has a key", none.hardest(), NONE);
        Checks.due("hardest() without titles", new TitleFinder().hardest(), NONE);
    }

    private static void testIfAdded() {
        TitleFinder finder = Checks.withTitles("sea fire", "fire sea");
        long before = finder.digest();
        Checks.due("ifAdded() of x", Checks.ifAdded(finder, "x"), 0);
        Checks.due("the text stays", finder.clearText(), 1);
        Checks.due("another start or length", Checks.ifAdded(finder, "a f"), 1);
        Checks.due("of both", Checks.ifAdded(finder, "a f e s"), 2);
        Checks.due("none instead of one", Checks.ifAdded(finder, "fire sea fire"), 2);
        Checks.due("titles()", finder.titles(), 2);
        Checks.due("digest()", finder.digest(), before);
        Checks.due("undo()", finder.undo(), 1);
        TitleFinder starts = Checks.withTitles("ab", "c");
        Checks.due("another start, the same length", Checks.ifAdded(starts, "a"), 1);
        Checks.due("another length, the same start", Checks.ifAdded(starts, "ba"), 1);
        Checks.due("no title yet", Checks.ifAdded(new TitleFinder(), "ba"), 0);
        TitleFinder without = Checks.withTitles("a", "ab");
        Checks.due("no key as before", Checks.ifAdded(without, "a a"), 0);
    }

    private static void testIfAddedInModes() {
        TitleFinder finder = Checks.withTitles("sea fire", "fire sea");
        finder.setMode(1);
        Checks.due("ifAdded() in mode 1", Checks.ifAdded(finder, "a f e s"), 0);
        Checks.due("ifAdded() in mode 1", Checks.ifAdded(finder, "sand"), 1);
        finder.setMode(2);
        Checks.due("ifAdded() in mode 2", Checks.ifAdded(finder, "a sea fox"), 1);
        finder.setMode(3);
        Checks.due("ifAdded() in mode 3", Checks.ifAdded(finder, "so far so"), 2);
    }

    private static void testIfAddedRefused() {
        TitleFinder finder = Checks.withTitles("sea", "fire");
        String[] texts = {"", " sea", "sea ", "se  a", "Sea", "abcdefghijklmnopqrstuvwxy", "add a"};
        for (int i = 0; i < texts.length - 1; i++) {
            Checks.due("ifAdded() of <" + texts[i] + ">", Checks.ifAdded(finder, texts[i]), TitleFinder.BAD_TEXT);
            Checks.due("the text stays", finder.clearText(), texts[i].length());
        }
        Checks.due("add a is a title", Checks.ifAdded(finder, "add a"), 0);
        Checks.due("ifAdded() of a title that is there", Checks.ifAdded(finder, "sea"), TitleFinder.NOT_POSSIBLE);
        Checks.due("the text stays", finder.clearText(), 3);
        for (char letter = 'a'; letter < 'a' + 14; letter++) {
            Checks.addTitle(finder, "" + letter);
        }
        Checks.due("titles()", finder.titles(), 16);
        Checks.due("ifAdded() of a 17th", Checks.ifAdded(finder, "z"), TitleFinder.LIMIT);
        Checks.due("ifAdded() of an old one", Checks.ifAdded(finder, "sea"), TitleFinder.NOT_POSSIBLE);
        Checks.due("ifAdded() of no title", Checks.ifAdded(finder, "sea "), TitleFinder.BAD_TEXT);
        finder.drop(15);
        Checks.due("ifAdded() of a 16th", Checks.ifAdded(finder, "sea fire"), 2);
    }
}
