/** Promise 5 (carryOut). */
public final class PlanTest {
    private PlanTest() {
    }

    public static void main(String[] args) {
        testEachCommand();
        testModesAndOrders();
        testSeveral();
        testStops();
        testBadText();
        testOneStateSaved();
        testStateSavedWithoutCommand();
        testMostTitles();
        testNumbers();
        testLongestPlan();
        Checks.end();
    }

    private static void testEachCommand() {
        TitleFinder finder = new TitleFinder();
        Checks.due("carryOut() of add", Checks.runPlan(finder, "add sea fire"), 1);
        Checks.due("the text is empty", finder.clearText(), 0);
        Checks.due("titles()", finder.titles(), 1);
        Checks.dueText("title", Checks.titleOf(finder, 0), "sea fire");
        Checks.due("carryOut() of ask", Checks.runPlan(finder, "ask a f"), 1);
        Checks.dueText("query", Checks.queryOf(finder), "a f");
        Checks.due("results()", finder.results(), 1);
        Checks.due("carryOut() of ask", Checks.runPlan(finder, "ask ea"), 1);
        Checks.dueText("query", Checks.queryOf(finder), "ea");
        Checks.due("carryOut() of clear", Checks.runPlan(finder, "clear"), 1);
        Checks.due("queryLength()", finder.queryLength(), 0);
        Checks.due("carryOut() of clear again", Checks.runPlan(finder, "clear"), 1);
        Checks.ask(finder, "s");
        Checks.due("carryOut() of pick", Checks.runPlan(finder, "pick 0"), 1);
        Checks.due("uses", finder.of(0, 2), 1);
        Checks.due("queryLength() after pick", finder.queryLength(), 0);
        Checks.due("carryOut() of drop", Checks.runPlan(finder, "drop 0"), 1);
        Checks.due("titles() after drop", finder.titles(), 0);
    }

    private static void testModesAndOrders() {
        TitleFinder finder = new TitleFinder();
        String[] modes = {"start", "word", "initials", "part"};
        int[] numbers = {1, 2, 3, 0};
        for (int i = 0; i < modes.length; i++) {
            Checks.due("carryOut() of " + modes[i], Checks.runPlan(finder, "mode " + modes[i]), 1);
            Checks.due("mode() after " + modes[i], finder.mode(), numbers[i]);
            Checks.due("order()", finder.order(), 0);
        }
        String[] orders = {"often", "name", "place"};
        int[] places = {1, 2, 0};
        for (int i = 0; i < orders.length; i++) {
            Checks.due("carryOut() of " + orders[i], Checks.runPlan(finder, "order " + orders[i]), 1);
            Checks.due("order() after " + orders[i], finder.order(), places[i]);
            Checks.due("mode()", finder.mode(), 0);
        }
    }

    private static void testSeveral() {
        TitleFinder finder = new TitleFinder();
        Checks.due("carryOut()", Checks.runPlan(finder, "add b;add ab;ask b;pick 1;pick 0;drop 0;mode word;ask a"), 8);
        Checks.due("titles()", finder.titles(), 1);
        Checks.dueText("title", Checks.titleOf(finder, 0), "ab");
        Checks.due("uses", finder.of(0, 2), 1);
        Checks.due("mode()", finder.mode(), 2);
        Checks.dueText("query", Checks.queryOf(finder), "a");
        Checks.due("carryOut() with a pick in an order", Checks.runPlan(finder, "add aa;order often;ask a;pick 0"), 4);
        Checks.due("uses of ab", finder.of(0, 2), 2);
        Checks.due("uses of aa", finder.of(1, 2), 0);
    }

    private static void testStops() {
        TitleFinder finder = new TitleFinder();
        Checks.due("a title twice", Checks.runPlan(finder, "add a;add a;add b"), 1);
        Checks.due("titles()", finder.titles(), 1);
        Checks.due("the text is empty", finder.clearText(), 0);
        Checks.due("no such title", Checks.runPlan(finder, "add c;drop 2;drop 0"), 1);
        Checks.due("titles()", finder.titles(), 2);
        Checks.due("no such result", Checks.runPlan(finder, "ask c;pick 1;clear"), 1);
        Checks.dueText("query", Checks.queryOf(finder), "c");
        Checks.due("nothing possible", Checks.runPlan(finder, "pick 9;clear"), 0);
        Checks.dueText("query", Checks.queryOf(finder), "c");
        Checks.due("the text is empty", finder.clearText(), 0);
    }

    private static void testBadText() {
        String[] texts = {"", "add", "add a;", "clear;drop x", "add a;;clear", "Clear", "add a ", "mode partx", "sea"};
        for (String text : texts) {
            TitleFinder finder = new TitleFinder();
            Checks.due("carryOut() of <" + text + ">", Checks.runPlan(finder, text), TitleFinder.BAD_TEXT);
            Checks.due("titles()", finder.titles(), 0);
            Checks.due("undo()", finder.undo(), TitleFinder.NOT_POSSIBLE);
            Checks.due("the text stays", finder.clearText(), text.length());
        }
    }

    private static void testOneStateSaved() {
        TitleFinder finder = Checks.withTitles("x");
        Checks.ask(finder, "x");
        long before = finder.digest();
        Checks.runPlan(finder, "add a;add b;mode start;order name;ask a;pick 0;drop 0");
        Checks.due("titles()", finder.titles(), 2);
        Checks.due("undo()", finder.undo(), 2);
        Checks.due("digest() after undo()", finder.digest(), before);
    }

    private static void testStateSavedWithoutCommand() {
        TitleFinder finder = new TitleFinder();
        Checks.due("carryOut()", Checks.runPlan(finder, "drop 0"), 0);
        Checks.due("undo()", finder.undo(), 0);
        Checks.due("undo() again", finder.undo(), TitleFinder.NOT_POSSIBLE);
    }

    private static void testMostTitles() {
        TitleFinder finder = new TitleFinder();
        Checks.due("eight", Checks.runPlan(finder, "add a;add b;add c;add d;add e;add f;add g;add h"), 8);
        Checks.due("eight more", Checks.runPlan(finder, "add i;add j;add k;add l;add m;add n;add o;add p"), 8);
        Checks.due("one too many", Checks.runPlan(finder, "clear;add q;clear"), 1);
        Checks.due("titles()", finder.titles(), 16);
        Checks.due("one for one", Checks.runPlan(finder, "drop 15;add q;drop 03"), 3);
        Checks.dueText("title 3", Checks.titleOf(finder, 3), "e");
        Checks.dueText("title 14", Checks.titleOf(finder, 14), "q");
    }

    private static void testNumbers() {
        TitleFinder finder = new TitleFinder();
        Checks.runPlan(finder, "add a;add b;add c;add d;add e;add f;add g;add h;add i;add j;add k;add l");
        Checks.due("drop 10", Checks.runPlan(finder, "drop 10"), 1);
        Checks.dueText("title 10", Checks.titleOf(finder, 10), "l");
        Checks.due("pick 10", Checks.runPlan(finder, "pick 10"), 1);
        Checks.due("uses of l", finder.of(10, 2), 1);
        Checks.due("pick 09", Checks.runPlan(finder, "pick 09"), 1);
        Checks.due("uses of j", finder.of(9, 2), 1);
        Checks.due("drop 99", Checks.runPlan(finder, "drop 99"), 0);
        Checks.due("drop 11", Checks.runPlan(finder, "drop 11"), 0);
        Checks.due("pick 11", Checks.runPlan(finder, "pick 11"), 0);
    }

    private static void testLongestPlan() {
        TitleFinder finder = new TitleFinder();
        String plan = "add a;add b;add c;add d;add e;add f;add g;add h;add i;add j;add k;add l;ask abcd";
        Checks.due("carryOut() of 80 characters", Checks.runPlan(finder, plan), 13);
        Checks.due("queryLength()", finder.queryLength(), 4);
        Checks.due("carryOut()", Checks.runPlan(finder, "ask abcdefghijkl mnopqrstuvw"), 1);
        Checks.dueText("query", Checks.queryOf(finder), "abcdefghijkl mnopqrstuvw");
        Checks.due("ask(97)", finder.ask(97), TitleFinder.LIMIT);
    }
}
