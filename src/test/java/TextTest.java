/** Promises 2 (type), 3 (clearText) and 4 (syntaxError). */
public final class TextTest {
    private static final String LETTERS_23 = "abcdefghij klmnopqrst uv";

    private TextTest() {
    }

    public static void main(String[] args) {
        testType();
        testClearText();
        testPlans();
        testUnfinishedPlans();
        testWrongCommands();
        testWrongNames();
        testWrongNumbers();
        testWrongTitles();
        testLengthOfTitles();
        testFullText();
        testOldCharactersAreGone();
        Checks.end();
    }

    private static void testType() {
        TitleFinder finder = new TitleFinder();
        int[] wrong = {31, 127, -1, 0, 128, Integer.MIN_VALUE, Integer.MAX_VALUE, 65536 + 97};
        for (int code : wrong) {
            Checks.due("type(" + code + ")", finder.type(code), TitleFinder.BAD_VALUE);
        }
        Checks.due("type(32)", finder.type(32), 1);
        Checks.due("type(126)", finder.type(126), 2);
        for (int i = 3; i <= 80; i++) {
            Checks.due("type(65)", finder.type(65), i);
        }
        Checks.due("type(65) on a full text", finder.type(65), TitleFinder.LIMIT);
        Checks.due("type(31) on a full text", finder.type(31), TitleFinder.BAD_VALUE);
        Checks.due("clearText() of a full text", finder.clearText(), 80);
    }

    private static void testClearText() {
        TitleFinder finder = new TitleFinder();
        Checks.due("clearText()", finder.clearText(), 0);
        Checks.type(finder, "adx");
        Checks.due("clearText()", finder.clearText(), 3);
        Checks.due("clearText() again", finder.clearText(), 0);
        Checks.type(finder, "add a");
        Checks.due("the old text is gone", finder.syntaxError(), TitleFinder.NONE);
    }

    private static void dueError(String text, int want) {
        TitleFinder finder = new TitleFinder();
        Checks.type(finder, text);
        long before = finder.digest();
        Checks.due("syntaxError() of <" + text + ">", finder.syntaxError(), want);
        Checks.due("digest() after syntaxError()", finder.digest(), before);
        Checks.due("the text's length after syntaxError()", finder.clearText(), text.length());
    }

    private static void testPlans() {
        String[] plans = {"clear", "add a", "add 0", "add a b c", "add 1 z9", "drop 0", "drop 00", "drop 99",
            "mode part", "mode start", "mode word", "mode initials", "order place", "order often", "order name",
            "ask q", "ask a b", "pick 1", "pick 07", "clear;clear", "add a;drop 0;mode word;order name;ask b;pick 1",
            "add add", "add clear", "ask mode part"};
        for (String plan : plans) {
            dueError(plan, TitleFinder.NONE);
        }
    }

    /** All beginnings of these that end within a command. */
    private static void testUnfinishedPlans() {
        String[] plans = {"clear", "add a", "drop 0", "mode part", "mode start", "mode word", "mode initials",
            "order place", "order often", "order name", "ask a", "pick 1"};
        for (String plan : plans) {
            for (int length = 0; length < plan.length(); length++) {
                dueError(plan.substring(0, length), length);
                dueError("clear;" + plan.substring(0, length), length + 6);
            }
        }
        dueError("add a ", 6);
        dueError("ask a b ", 8);
        dueError("clear;", 6);
    }

    private static void testWrongCommands() {
        dueError(" clear", 0);
        dueError("Clear", 0);
        dueError(";", 0);
        dueError("xyz", 0);
        dueError("ax", 1);
        dueError("as;", 2);
        dueError("adk a", 2);
        dueError("addx", 3);
        dueError("askq", 3);
        dueError("drop0", 4);
        dueError("modepart", 4);
        dueError("orders", 5);
        dueError("pock", 1);
        dueError("clearx", 5);
        dueError("clear ", 5);
        dueError("clear;;clear", 6);
        dueError("clear; clear", 6);
        dueError("clear ;clear", 5);
        dueError("clear,clear", 5);
        dueError("cleAr", 3);
        dueError("clearclear", 5);
        dueError("drop 1drop 1", 6);
        dueError("pick 12add a", 7);
        dueError("mode wordclear", 9);
        dueError("order nameask a", 10);
    }

    private static void testWrongNames() {
        dueError("mode  part", 5);
        dueError("mode place", 6);
        dueError("mode 0", 5);
        dueError("mode partx", 9);
        dueError("mode part ", 9);
        dueError("mode parx", 8);
        dueError("mode words", 9);
        dueError("mode initialz", 12);
        dueError("mode pa;clear", 7);
        dueError("order  name", 6);
        dueError("order part", 7);
        dueError("order names", 10);
        dueError("order ofter", 10);
        dueError("order word", 6);
    }

    private static void testWrongNumbers() {
        dueError("drop  1", 5);
        dueError("drop x", 5);
        dueError("drop -1", 5);
        dueError("drop 1x", 6);
        dueError("drop 1 ", 6);
        dueError("drop 123", 7);
        dueError("drop 000", 7);
        dueError("drop ;clear", 5);
        dueError("pick 12 ", 7);
        dueError("pick 1;pick 123", 14);
        dueError("pick /", 5);
        dueError("pick :", 5);
    }

    private static void testWrongTitles() {
        dueError("add  a", 4);
        dueError("add ;", 4);
        dueError("add A", 4);
        dueError("add aB", 5);
        dueError("add a  b", 6);
        dueError("add a ;clear", 6);
        dueError("add a-b", 5);
        dueError("add `", 4);
        dueError("add {", 4);
        dueError("add a/", 5);
        dueError("add a:", 5);
        dueError("ask  a", 4);
        dueError("ask ;", 4);
        dueError("ask a ;", 6);
        dueError("ask a?", 5);
    }

    private static void testLengthOfTitles() {
        String longest = "abcdefghijklmnopqrstuvwx";
        dueError("add " + longest, TitleFinder.NONE);
        dueError("ask " + longest, TitleFinder.NONE);
        dueError("add " + longest + "y", 28);
        dueError("ask " + longest + "y", 28);
        dueError("add " + longest + " ", 28);
        dueError("add " + longest + ";", 29);
        // A blank can't be the last of 24 characters, but the one before the last.
        dueError("add " + longest.substring(0, 23) + " ", 27);
        dueError("ask " + longest.substring(0, 23) + " ", 27);
        dueError("add " + longest.substring(0, 22) + " ", 27);
        dueError("add " + longest.substring(0, 22) + " a", TitleFinder.NONE);
        dueError("add " + longest.substring(0, 22) + " ab", 28);
        dueError("add " + LETTERS_23, TitleFinder.NONE);
    }

    /** The plan that begins with a text may be longer than a text. */
    private static void testFullText() {
        String plan = "ask a;ask a;ask a;ask a;ask a;ask a;ask a;ask a;ask a;ask a;ask a;ask a;ask abcd";
        dueError(plan, TitleFinder.NONE);
        dueError(plan.substring(0, 79) + ";", 80);
        dueError(plan.substring(0, 79) + " ", 80);
        dueError(plan.substring(0, 79) + "?", 79);
        dueError("ask a;ask a;ask a;ask a;ask a;ask a;ask a;ask a;ask a;ask a;ask a;ask ab;mode in", 80);
    }

    /** What stood in the text before it was emptied is not read any more. */
    private static void testOldCharactersAreGone() {
        String[] plans = {"clear", "add a", "add ab", "drop 0", "drop 12", "mode part", "order name", "ask a b",
            "clear;clear", "pick 1;pick 2"};
        for (String plan : plans) {
            for (int length = 0; length < plan.length(); length++) {
                String text = plan.substring(0, length);
                TitleFinder fresh = new TitleFinder();
                Checks.type(fresh, text);
                TitleFinder used = new TitleFinder();
                Checks.type(used, plan);
                Checks.write(used, text);
                Checks.due("syntaxError() of <" + text + ">, again", used.syntaxError(), fresh.syntaxError());
            }
        }
        TitleFinder finder = new TitleFinder();
        Checks.type(finder, "clear");
        Checks.write(finder, "clea");
        Checks.due("syntaxError() of clea", finder.syntaxError(), 4);
        Checks.due("carryOut() of clea", finder.carryOut(), TitleFinder.BAD_TEXT);
        Checks.write(finder, "drop 12");
        Checks.write(finder, "drop 1");
        Checks.due("carryOut() of drop 1", finder.carryOut(), 0);
        Checks.write(finder, "sea fire");
        Checks.write(finder, "sea");
        Checks.due("add()", finder.add(), 0);
        Checks.dueText("title", Checks.titleOf(finder, 0), "sea");
    }
}
