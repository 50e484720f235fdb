/** One test for each sentence on the text and on plans that names a bound: "Terms" and promises 2 to 5. */
public final class BoundsOfPlansTest {
    private static final int NONE = TitleFinder.NONE;
    private static final int BAD_TEXT = TitleFinder.BAD_TEXT;
    private static final String[] MODES = {"part", "start", "word", "initials"};
    private static final String[] ORDERS = {"place", "often", "name"};
    /** A plan of 80 characters, the most that a text can have. */
    private static final String LONGEST =
            "ask a;ask b;ask c;ask d;ask e;ask f;ask g;ask h;ask i;ask j;ask k;ask l;ask mnop";

    private static final String FIRST_WRONG = "Returns the index of the first character for which no plan, of any"
            + " length, begins with the characters of the text up to and including this one";
    private static final String LIKE =
            "\"add\", \"drop\", \"mode\", \"order\" and \"pick\" like add(), drop(), setMode(), setOrder() and pick()";

    private BoundsOfPlansTest() {
    }

    public static void main(String[] args) {
        testMostText();
        testCodesOfText();
        testTextAtFirst();
        testFormOfPlan();
        testOneBlank();
        testNameOfMode();
        testNameOfOrder();
        testQueryOfPlan();
        testTitleOfPlan();
        testDigits();
        testLeadingZeros();
        testNewLength();
        testCodeOutOfRange();
        testFullText();
        testClearText();
        testPreviousLength();
        testFirstWrongCharacter();
        testEveryCode();
        testPlanOfAnyLength();
        testTextThatIsNoPlan();
        testTextThatIsPlan();
        testFromLeftToRight();
        testFirstThatIsNotPossible();
        testLikeAdd();
        testLikeDrop();
        testLikePick();
        testLikeSetModeAndSetOrder();
        testAskMakesQuery();
        testClearMakesQueryEmpty();
        testTextBecomesEmpty();
        testOneStateForAll();
        testStateWithoutCommand();
        testNumberOfCommands();
        testTextStaysIfNoPlan();
        Checks.end();
    }

    private static void dueError(String text, int want) {
        TitleFinder finder = new TitleFinder();
        Checks.type(finder, text);
        Checks.due("syntaxError() of <" + text + ">", finder.syntaxError(), want);
    }

    private static void duePlans(String... plans) {
        for (String plan : plans) {
            dueError(plan, NONE);
        }
    }

    // ---- terms

    private static void testMostText() {
        Checks.sentence("There is a text of at most 80 characters");
        TitleFinder finder = new TitleFinder();
        Checks.type(finder, LONGEST.substring(0, 79));
        Checks.due("type() of the 80th", finder.type(LONGEST.charAt(79)), 80);
        Checks.due("type() of an 81st", finder.type('q'), TitleFinder.LIMIT);
        Checks.due("carryOut()", finder.carryOut(), 13);
        Checks.dueText("query", Checks.queryOf(finder), "mnop");
    }

    private static void testCodesOfText() {
        Checks.sentence("(32 to 126)");
        for (int code = -2; code <= 300; code++) {
            int want = code >= 32 && code <= 126 ? 1 : TitleFinder.BAD_VALUE;
            Checks.due("type(" + code + ")", new TitleFinder().type(code), want);
        }
    }

    private static void testTextAtFirst() {
        Checks.sentence("which is empty initially");
        Checks.due("clearText()", new TitleFinder().clearText(), 0);
        Checks.due("syntaxError()", new TitleFinder().syntaxError(), 0);
        Checks.due("type(97)", new TitleFinder().type(97), 1);
        Checks.due("add()", new TitleFinder().add(), BAD_TEXT);
        Checks.due("carryOut()", new TitleFinder().carryOut(), BAD_TEXT);
    }

    private static void testFormOfPlan() {
        Checks.sentence("A plan is a text of the form command { \";\" command }");
        duePlans("clear", "clear;clear", "clear;clear;clear", "add a;drop 0", "drop 0;add a", "mode word;order name",
                "order often;mode part", "ask a;pick 1", "pick 1;ask a", LONGEST);
        dueError("", 0);
        dueError(";", 0);
        dueError(";clear", 0);
        dueError("clear;", 6);
        dueError("clear;;clear", 6);
        dueError("clearclear", 5);
        dueError("drop 1pick 1", 6);
        dueError("mode partclear", 9);
        dueError("order nameclear", 10);
        dueError("clear,clear", 5);
        dueError("Clear", 0);
        dueError("a", 1);
    }

    private static void testOneBlank() {
        Checks.sentence("with exactly one blank where one is written");
        String[] plans = {"add a", "drop 0", "mode part", "order name", "ask a", "pick 0"};
        for (String plan : plans) {
            int blank = plan.indexOf(' ');
            dueError(plan, NONE);
            dueError(plan.substring(0, blank) + plan.substring(blank + 1), blank);
            dueError(plan.substring(0, blank) + " " + plan.substring(blank), blank + 1);
            dueError(" " + plan, 0);
            dueError("clear; " + plan, 6);
        }
        dueError(" clear", 0);
        dueError("clear ", 5);
        dueError("clear ;clear", 5);
        dueError("drop 0 ", 6);
        dueError("mode part ", 9);
        dueError("order name ;clear", 10);
        dueError("add a ;clear", 6);
        dueError("pick 12 ", 7);
    }

    private static void dueNames(String command, String[] names) {
        for (String name : names) {
            String plan = command + name;
            dueError(plan, NONE);
            dueError(plan + ";clear", NONE);
            dueError(plan + "x", plan.length());
            for (int length = command.length(); length < plan.length(); length++) {
                dueError(plan.substring(0, length), length);
                dueError(plan.substring(0, length) + ";", length);
            }
        }
    }

    private static void testNameOfMode() {
        Checks.sentence("\"mode \" and the name of a mode");
        dueNames("mode ", MODES);
        dueError("mode place", 6);
        dueError("mode often", 5);
        dueError("mode name", 5);
        dueError("mode Part", 5);
        dueError("mode 0", 5);
    }

    private static void testNameOfOrder() {
        Checks.sentence("\"order \" and the name of an order");
        dueNames("order ", ORDERS);
        dueError("order part", 7);
        dueError("order start", 6);
        dueError("order word", 6);
        dueError("order initials", 6);
        dueError("order 0", 6);
    }

    private static void testQueryOfPlan() {
        Checks.sentence("\"ask \" and a query that is not empty and does not end with a blank");
        duePlans("ask a", "ask 0", "ask a b", "ask " + Checks.letters(24), "ask " + Checks.letters(22) + " z");
        dueError("ask ", 4);
        dueError("ask ;", 4);
        dueError("ask ;clear", 4);
        dueError("ask a ", 6);
        dueError("ask a ;", 6);
        dueError("ask  a", 4);
        dueError("ask a  b", 6);
        dueError("ask A", 4);
        dueError("ask " + Checks.letters(25), 28);
        dueError("ask " + Checks.letters(24) + " ", 28);
        dueError("ask " + Checks.letters(23) + " ", 27);
        dueError("ask " + Checks.letters(22) + " ", 27);
    }

    private static void testTitleOfPlan() {
        Checks.sentence("\"add \" title");
        duePlans("add a", "add 0", "add a b", "add " + Checks.letters(24), "add " + Checks.letters(22) + " z");
        dueError("add ", 4);
        dueError("add ;", 4);
        dueError("add a ", 6);
        dueError("add  a", 4);
        dueError("add a  b", 6);
        dueError("add A", 4);
        dueError("add " + Checks.letters(25), 28);
        dueError("add " + Checks.letters(24) + " ", 28);
        dueError("add " + Checks.letters(23) + " ", 27);
        dueError("add " + Checks.letters(22) + " ", 27);
    }

    private static void testDigits() {
        Checks.sentence("A number has 1 or 2 digits");
        for (String command : new String[] {"drop ", "pick "}) {
            duePlans(command + "0", command + "9", command + "10", command + "99", command + "5;clear");
            dueError(command, 5);
            dueError(command + ";", 5);
            dueError(command + "123", 7);
            dueError(command + "12a", 7);
            dueError(command + "1a", 6);
            dueError(command + "1 2", 6);
            dueError(command + "-1", 5);
            dueError(command + "+1", 5);
            dueError(command + "/", 5);
            dueError(command + ":", 5);
            dueError(command + "a", 5);
        }
    }

    private static void testLeadingZeros() {
        Checks.sentence("leading zeros are allowed");
        duePlans("drop 00", "drop 01", "drop 09", "pick 00", "pick 07");
        dueError("drop 000", 7);
        dueError("pick 001", 7);
        TitleFinder finder = Checks.withTitles("a", "b", "c");
        Checks.due("carryOut() of pick 02", Checks.runPlan(finder, "pick 02"), 1);
        Checks.due("uses of c", finder.of(2, 2), 1);
        Checks.due("carryOut() of drop 00", Checks.runPlan(finder, "drop 00"), 1);
        Checks.due("carryOut() of drop 01", Checks.runPlan(finder, "drop 01"), 1);
        Checks.dueText("title 0", Checks.titleOf(finder, 0), "b");
        Checks.due("titles()", finder.titles(), 1);
    }

    // ---- promise 2: type

    private static void testNewLength() {
        Checks.sentence("Returns the new length of the text");
        TitleFinder finder = new TitleFinder();
        for (int i = 1; i <= 80; i++) {
            Checks.due("type(" + (31 + i) + ")", finder.type(31 + i), i);
        }
        finder.clearText();
        Checks.due("type(126) after clearText()", finder.type(126), 1);
    }

    private static void testCodeOutOfRange() {
        Checks.sentence("BAD_VALUE if code is out of range (type)");
        for (int code : new int[] {31, 127, 0, -1, 128, 65536 + 97, Integer.MIN_VALUE, Integer.MAX_VALUE}) {
            Checks.dueRefused("type(" + code + ")", finder -> Checks.type(finder, "clear"),
                    finder -> finder.type(code), TitleFinder.BAD_VALUE);
        }
    }

    private static void testFullText() {
        Checks.sentence("LIMIT if the text has 80 characters");
        Checks.dueRefused("type(120)", finder -> Checks.type(finder, LONGEST), finder -> finder.type(120),
                TitleFinder.LIMIT);
        Checks.dueRefused("type(127), whose code comes first", finder -> Checks.type(finder, LONGEST),
                finder -> finder.type(127), TitleFinder.BAD_VALUE);
        TitleFinder finder = new TitleFinder();
        Checks.type(finder, LONGEST);
        finder.clearText();
        Checks.due("type(120) after clearText()", finder.type(120), 1);
    }

    // ---- promise 3: clearText

    private static void testClearText() {
        Checks.sentence("Makes the text empty.");
        TitleFinder finder = new TitleFinder();
        Checks.type(finder, LONGEST);
        finder.clearText();
        Checks.due("syntaxError()", finder.syntaxError(), 0);
        Checks.due("carryOut()", finder.carryOut(), BAD_TEXT);
        finder.clearText();
        Checks.due("add() of an empty text", finder.add(), BAD_TEXT);
        Checks.type(finder, "ask");
        Checks.due("syntaxError() of ask alone", finder.syntaxError(), 3);
    }

    private static void testPreviousLength() {
        Checks.sentence("Returns the previous length of the text.");
        TitleFinder finder = new TitleFinder();
        Checks.due("clearText() of nothing", finder.clearText(), 0);
        for (int length : new int[] {1, 2, 79, 80}) {
            Checks.type(finder, LONGEST.substring(0, length));
            Checks.due("clearText()", finder.clearText(), length);
            Checks.due("clearText() again", finder.clearText(), 0);
        }
        Checks.type(finder, LONGEST + "q");
        Checks.due("clearText() of 80 and one that was refused", finder.clearText(), 80);
    }

    // ---- promise 4: syntaxError

    private static void testFirstWrongCharacter() {
        Checks.sentence(FIRST_WRONG);
        dueError("?", 0);
        dueError("?clear", 0);
        dueError("b", 0);
        dueError("cl?ar", 2);
        dueError("cl?ar?", 2);
        dueError("clear?", 5);
        dueError("clear;?", 6);
        dueError("ad add", 2);
        dueError("as;ask", 2);
        dueError("order ofter", 10);
        dueError("mode stark", 9);
        dueError(LONGEST.substring(0, 79) + "?", 79);
        dueError(LONGEST.substring(0, 79) + " ", 80);
    }

    /** What may stand at a place, for all characters that a text can have. */
    private static void dueNext(String before, String goesOn, String isPlan) {
        for (char code = 32; code <= 126; code++) {
            int want = goesOn.indexOf(code) >= 0 ? before.length() + 1 : before.length();
            dueError(before + code, isPlan.indexOf(code) >= 0 ? NONE : want);
        }
    }

    private static void testEveryCode() {
        Checks.sentence(FIRST_WRONG + " (each code)");
        String digits = "0123456789";
        String letters = Checks.letters(26) + digits;
        dueNext("", "acdmop", "");
        dueNext("a", "ds", "");
        dueNext("clear", ";", "");
        dueNext("clear;", "acdmop", "");
        dueNext("add ", "", letters);
        dueNext("add a", " ;", letters);
        dueNext("add a ", "", letters);
        dueNext("ask ", "", letters);
        dueNext("ask a", " ;", letters);
        dueNext("ask a ", "", letters);
        dueNext("drop ", "", digits);
        dueNext("pick 1", ";", digits);
        dueNext("pick 12", ";", "");
        dueNext("mode ", "pswi", "");
        dueNext("mode part", ";", "");
        dueNext("order ", "pon", "");
        dueNext("order name", ";", "");
        dueNext("add " + Checks.letters(24), ";", "");
        dueNext("add " + Checks.letters(23), ";", letters);
    }

    private static void testPlanOfAnyLength() {
        Checks.sentence(FIRST_WRONG + " (of any length)");
        String before = LONGEST.substring(0, 71);
        String[] ends = {";add abc ", ";add abc;", ";mode ini", ";order of", ";drop 1;p", ";ask a b "};
        for (String end : ends) {
            dueError(before + end, 80);
        }
        dueError(before + ";mode inx", 79);
        dueError(before + ";add ab;;", 79);
    }

    private static void testTextThatIsNoPlan() {
        Checks.sentence("the length of the text if there is no such character but the text is not a plan"
                + " (this holds for the empty text)");
        dueError("", 0);
        String[] plans = {"clear", "add a", "drop 0", "ask a", "pick 1", "mode initials", "order often"};
        for (String plan : plans) {
            for (int length = 1; length < plan.length(); length++) {
                dueError(plan.substring(0, length), length);
                dueError("clear;" + plan.substring(0, length), length + 6);
            }
            dueError(plan + ";", plan.length() + 1);
        }
        TitleFinder finder = new TitleFinder();
        Checks.runPlan(finder, "clear");
        Checks.due("syntaxError() after a plan that was carried out", finder.syntaxError(), 0);
    }

    private static void testTextThatIsPlan() {
        Checks.sentence("NONE if the text is a plan");
        duePlans("add a", "drop 0", "ask a", "pick 1", "clear", "mode part", "mode start", "mode word",
                "mode initials", "order place", "order often", "order name", "add add", "ask ask a", LONGEST);
        // Whether a command is possible does not matter.
        duePlans("drop 99;pick 99", "add a;add a");
    }

    // ---- promise 5: carryOut

    private static void testFromLeftToRight() {
        Checks.sentence("Carries out the commands of the text from left to right");
        TitleFinder finder = new TitleFinder();
        Checks.due("carryOut()", Checks.runPlan(finder, "add a;add b;drop 0;add c;ask c;pick 0;ask b"), 7);
        Checks.dueText("title 0", Checks.titleOf(finder, 0), "b");
        Checks.dueText("title 1", Checks.titleOf(finder, 1), "c");
        Checks.due("uses of c", finder.of(1, 2), 1);
        Checks.dueText("query", Checks.queryOf(finder), "b");
        Checks.due("carryOut()", Checks.runPlan(finder, "mode word;mode start;order name;order often"), 4);
        Checks.due("mode()", finder.mode(), 1);
        Checks.due("order()", finder.order(), 1);
    }

    private static void testFirstThatIsNotPossible() {
        Checks.sentence("up to the first one that is not possible");
        String[] plans = {"add t0;clear", "drop 2;clear", "pick 2;clear", "drop 99;clear", "pick 99;clear"};
        for (String plan : plans) {
            TitleFinder finder = Checks.withCount(2);
            Checks.ask(finder, "t");
            Checks.due("carryOut() of " + plan, Checks.runPlan(finder, plan), 0);
            Checks.dueText("query", Checks.queryOf(finder), "t");
            Checks.due("two and " + plan, Checks.runPlan(finder, "ask t1;order name;" + plan), 2);
            Checks.dueText("query", Checks.queryOf(finder), "t1");
            Checks.due("order()", finder.order(), 2);
            Checks.due("titles()", finder.titles(), 2);
        }
        TitleFinder last = Checks.withCount(2);
        Checks.due("the last one", Checks.runPlan(last, "ask t;drop 0;drop 1"), 2);
        Checks.due("titles()", last.titles(), 1);
    }

    private static void testLikeAdd() {
        Checks.sentence(LIKE + " (add)");
        TitleFinder finder = Checks.withCount(15);
        Checks.due("the 16th", Checks.runPlan(finder, "add x"), 1);
        Checks.due("a 17th", Checks.runPlan(finder, "add y"), 0);
        Checks.due("one that is there", Checks.runPlan(finder, "add x"), 0);
        Checks.due("one for another one", Checks.runPlan(finder, "drop 0;add y;add z"), 2);
        Checks.dueText("title 15", Checks.titleOf(finder, 15), "y");
        Checks.due("twice in a plan", Checks.runPlan(finder, "drop 0;drop 0;add q;add q;add r"), 3);
        Checks.due("titles()", finder.titles(), 15);
        Checks.due("24 characters", Checks.runPlan(finder, "add " + Checks.letters(24)), 1);
        Checks.dueText("title 15", Checks.titleOf(finder, 15), Checks.letters(24));
    }

    private static void testLikeDrop() {
        Checks.sentence(LIKE + " (drop)");
        TitleFinder finder = Checks.withCount(16);
        Checks.due("drop 16 of 16", Checks.runPlan(finder, "drop 16"), 0);
        Checks.due("drop 15 of 16", Checks.runPlan(finder, "drop 15"), 1);
        Checks.due("drop 15 of 15", Checks.runPlan(finder, "drop 15"), 0);
        Checks.due("drop 0", Checks.runPlan(finder, "drop 0;drop 10"), 2);
        Checks.dueText("title 0", Checks.titleOf(finder, 0), "t1");
        Checks.dueText("title 10", Checks.titleOf(finder, 10), "t12");
        Checks.due("drop 0 of none", Checks.runPlan(new TitleFinder(), "drop 0"), 0);
    }

    private static void testLikePick() {
        Checks.sentence(LIKE + " (pick)");
        TitleFinder finder = Checks.withCount(16);
        Checks.due("pick 16 of 16", Checks.runPlan(finder, "pick 16"), 0);
        Checks.due("pick 15 of 16", Checks.runPlan(finder, "ask t;pick 15"), 2);
        Checks.due("uses of t15", finder.of(15, 2), 1);
        Checks.due("queryLength()", finder.queryLength(), 0);
        Checks.due("pick 1 of one", Checks.runPlan(finder, "ask t9;pick 1;clear"), 1);
        Checks.dueText("query", Checks.queryOf(finder), "t9");
        Checks.due("pick 0 of one", Checks.runPlan(finder, "pick 0"), 1);
        Checks.due("uses of t9", finder.of(9, 2), 1);
        Checks.due("the title 0", Checks.runPlan(finder, "ask t0;pick 0"), 2);
        Checks.due("uses of t0", finder.of(0, 2), 1);
        Checks.due("pick 0 of none", Checks.runPlan(finder, "ask x;pick 0"), 1);
        Checks.due("in the order of now", Checks.runPlan(finder, "order often;ask t9;pick 0;ask t;pick 0"), 5);
        Checks.due("uses of t9", finder.of(9, 2), 3);
    }

    private static void testLikeSetModeAndSetOrder() {
        Checks.sentence(LIKE + " (mode, order)");
        TitleFinder finder = new TitleFinder();
        for (int mode = 3; mode >= 0; mode--) {
            Checks.due("mode " + MODES[mode], Checks.runPlan(finder, "mode " + MODES[mode]), 1);
            Checks.due("mode()", finder.mode(), mode);
            Checks.due("the same again", Checks.runPlan(finder, "mode " + MODES[mode]), 1);
            Checks.due("mode()", finder.mode(), mode);
            Checks.due("order()", finder.order(), 0);
        }
        for (int order = 2; order >= 0; order--) {
            Checks.due("order " + ORDERS[order], Checks.runPlan(finder, "order " + ORDERS[order]), 1);
            Checks.due("order()", finder.order(), order);
            Checks.due("the same again", Checks.runPlan(finder, "order " + ORDERS[order]), 1);
            Checks.due("order()", finder.order(), order);
            Checks.due("mode()", finder.mode(), 0);
        }
    }

    private static void testAskMakesQuery() {
        Checks.sentence("\"ask\" makes these characters the query");
        TitleFinder finder = new TitleFinder();
        Checks.due("carryOut()", Checks.runPlan(finder, "ask " + Checks.letters(24)), 1);
        Checks.dueText("24 characters", Checks.queryOf(finder), Checks.letters(24));
        Checks.due("carryOut()", Checks.runPlan(finder, "ask z"), 1);
        Checks.dueText("in place of 24 others", Checks.queryOf(finder), "z");
        Checks.due("queryLength()", finder.queryLength(), 1);
        Checks.due("queryCharacter(1)", finder.queryCharacter(1), TitleFinder.NO_SUCH);
        finder.ask(' ');
        Checks.due("carryOut()", Checks.runPlan(finder, "ask a 0"), 1);
        Checks.dueText("in place of one with a blank at its end", Checks.queryOf(finder), "a 0");
    }

    private static void testClearMakesQueryEmpty() {
        Checks.sentence("and \"clear\" makes it empty");
        TitleFinder finder = Checks.withCount(2);
        Checks.ask(finder, "t0 ");
        Checks.due("clear", Checks.runPlan(finder, "clear"), 1);
        Checks.due("queryLength()", finder.queryLength(), 0);
        Checks.due("queryCharacter(0)", finder.queryCharacter(0), TitleFinder.NO_SUCH);
        Checks.due("results()", finder.results(), 2);
        Checks.due("clear of an empty query", Checks.runPlan(finder, "clear"), 1);
        Checks.due("queryLength()", finder.queryLength(), 0);
    }

    private static void testTextBecomesEmpty() {
        Checks.sentence("The text becomes empty.");
        String[] plans = {"clear", "clear;clear", "drop 0", "drop 0;clear", "clear;drop 0;clear", LONGEST};
        for (String plan : plans) {
            TitleFinder finder = new TitleFinder();
            Checks.runPlan(finder, plan);
            Checks.due("clearText() after " + plan, finder.clearText(), 0);
        }
    }

    private static void testOneStateForAll() {
        Checks.sentence("One state is saved for the whole call");
        TitleFinder finder = Checks.withCount(2);
        Checks.ask(finder, "t");
        long before = finder.digest();
        Checks.due("carryOut()", Checks.runPlan(finder, "add a;drop 0;mode word;order name;ask t;pick 0;clear"), 7);
        Checks.due("undo()", finder.undo(), 3);
        Checks.due("digest()", finder.digest(), before);
        Checks.due("carryOut() that stops", Checks.runPlan(finder, "add a;drop 0;add a;clear"), 2);
        Checks.due("undo()", finder.undo(), 3);
        Checks.due("digest()", finder.digest(), before);
        TitleFinder full = new TitleFinder();
        Checks.ask(full, "abcdef");
        Checks.due("carryOut() with six saved states", Checks.runPlan(full, "ask x;ask y;ask z"), 3);
        for (int left = 5; left >= 0; left--) {
            Checks.due("undo()", full.undo(), left);
        }
        Checks.dueText("query", Checks.queryOf(full), "a");
    }

    private static void testStateWithoutCommand() {
        Checks.sentence("also if no command is carried out");
        TitleFinder finder = new TitleFinder();
        Checks.due("carryOut()", Checks.runPlan(finder, "drop 0;clear"), 0);
        Checks.due("carryOut()", Checks.runPlan(finder, "pick 0;clear"), 0);
        Checks.due("undo()", finder.undo(), 1);
        Checks.due("undo()", finder.undo(), 0);
        Checks.due("undo()", finder.undo(), TitleFinder.NOT_POSSIBLE);
    }

    private static void testNumberOfCommands() {
        Checks.sentence("Returns the number of commands that are carried out");
        Checks.due("none", Checks.runPlan(new TitleFinder(), "pick 0"), 0);
        Checks.due("one", Checks.runPlan(new TitleFinder(), "clear"), 1);
        Checks.due("two of three", Checks.runPlan(new TitleFinder(), "clear;clear;drop 0"), 2);
        Checks.due("thirteen", Checks.runPlan(new TitleFinder(), LONGEST), 13);
    }

    private static void testTextStaysIfNoPlan() {
        Checks.sentence("BAD_TEXT if the text is not a plan (then the text stays)");
        String[] texts = {"", "c", "clear;", "clear;x", "add a;drop", "add a;drop 0 ", "drop 123", "t9", ";clear",
            LONGEST.substring(0, 79) + ";"};
        for (String text : texts) {
            Checks.dueRefused("carryOut() of <" + text + ">", finder -> {
                Checks.addTitle(finder, "b");
                Checks.ask(finder, "bcdefg");
                Checks.type(finder, text);
            }, TitleFinder::carryOut, BAD_TEXT);
            TitleFinder finder = new TitleFinder();
            Checks.runPlan(finder, text);
            Checks.due("clearText() after <" + text + ">", finder.clearText(), text.length());
        }
        TitleFinder finder = new TitleFinder();
        Checks.runPlan(finder, "clear;ask ");
        finder.type('z');
        Checks.due("carryOut() of what was mended", finder.carryOut(), 2);
    }
}
