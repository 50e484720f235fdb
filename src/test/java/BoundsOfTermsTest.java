/** One test for each sentence of "Terms" on titles, pieces, query, results, keys and shortcuts that names a bound. */
public final class BoundsOfTermsTest {
    private static final int NONE = TitleFinder.NONE;
    private static final int BAD_TEXT = TitleFinder.BAD_TEXT;

    private BoundsOfTermsTest() {
    }

    public static void main(String[] args) {
        testNumberedFromZero();
        testMostTitles();
        testNumbersInOrder();
        testNumbersAfterDrop();
        testLengthOfTitle();
        testBlanksOfTitle();
        testCharactersOfTitle();
        testUsesAtFirst();
        testNameWithLowerCode();
        testNameThatIsBeginning();
        testShortestPiece();
        testPart();
        testStartOfPart();
        testStart();
        testWord();
        testInitials();
        testStartOfInitials();
        testModeAtAnyTime();
        testLengthOfQuery();
        testCharactersOfQuery();
        testBlankFirst();
        testBlanksSideBySide();
        testBlankAtEnd();
        testEmptyQueryMatches();
        testExactCharacters();
        testLowestStartOfMatch();
        testPlaceOfEmptyQuery();
        testResultsAreAllThatMatch();
        testOrderPlace();
        testOrderOften();
        testOrderName();
        testOrderAtAnyTime();
        testKnown();
        testShortestKey();
        testNoKey();
        testShortcut();
        testBestShortcut();
        Checks.end();
    }

    private static void testNumberedFromZero() {
        Checks.sentence("Everything is numbered from 0.");
        TitleFinder finder = new TitleFinder();
        Checks.due("add() of the first title", Checks.addTitle(finder, "xb yc"), 0);
        Checks.due("the first character of the first title", finder.character(0, 0), 'x');
        Checks.due("character(1, 0)", finder.character(1, 0), TitleFinder.NO_SUCH);
        finder.ask('x');
        Checks.due("the first character of the query", finder.queryCharacter(0), 'x');
        Checks.due("the first result", finder.result(0), 0);
        Checks.due("its place", finder.matchPlace(0), 0);
        Checks.due("result(1)", finder.result(1), TitleFinder.NO_SUCH);
        Checks.due("the start of its key", finder.of(0, 3), 0);
        Checks.due("carryOut() of pick 0", Checks.runPlan(finder, "pick 0"), 1);
        Checks.due("carryOut() of drop 0", Checks.runPlan(finder, "drop 0"), 1);
        Checks.due("syntaxError() at the first character", new TitleFinder().syntaxError(), 0);
    }

    private static void testMostTitles() {
        Checks.sentence("There are at most 16 different titles");
        TitleFinder finder = new TitleFinder();
        for (int i = 0; i < 16; i++) {
            Checks.due("add() of t" + i, Checks.addTitle(finder, "t" + i), i);
        }
        Checks.due("titles()", finder.titles(), 16);
        Checks.due("add() of a 17th", Checks.addTitle(finder, "t16"), TitleFinder.LIMIT);
        Checks.due("carryOut() with a 17th", Checks.runPlan(finder, "add t16"), 0);
        Checks.due("titles()", finder.titles(), 16);
        Checks.dueText("title 15", Checks.titleOf(finder, 15), "t15");
        Checks.due("results()", finder.results(), 16);
        finder.drop(0);
        Checks.due("add() of t5 again", Checks.addTitle(finder, "t5"), TitleFinder.NOT_POSSIBLE);
        Checks.due("add() of t16 then", Checks.addTitle(finder, "t16"), 15);
        Checks.due("add() of t17", Checks.addTitle(finder, "t17"), TitleFinder.LIMIT);
    }

    private static void testNumbersInOrder() {
        Checks.sentence("numbered in the order in which they were added");
        TitleFinder finder = Checks.withTitles("z", "a", "m", "b");
        Checks.dueText("title 0", Checks.titleOf(finder, 0), "z");
        Checks.dueText("title 1", Checks.titleOf(finder, 1), "a");
        Checks.dueText("title 2", Checks.titleOf(finder, 2), "m");
        Checks.dueText("title 3", Checks.titleOf(finder, 3), "b");
        Checks.dueText("title 4", Checks.titleOf(finder, 4), "");
    }

    private static void testNumbersAfterDrop() {
        Checks.sentence("if one is dropped, those behind it get numbers that are lower by 1");
        for (int dropped : new int[] {0, 1, 7, 14, 15}) {
            TitleFinder finder = Checks.withCount(16);
            finder.drop(dropped);
            for (int i = 0; i < 15; i++) {
                String want = "t" + (i < dropped ? i : i + 1);
                Checks.dueText("title " + i + " after drop(" + dropped + ")", Checks.titleOf(finder, i), want);
            }
            Checks.due("character(15, 0)", finder.character(15, 0), TitleFinder.NO_SUCH);
            Checks.due("add() then", Checks.addTitle(finder, "t16"), 15);
        }
    }

    private static void testLengthOfTitle() {
        Checks.sentence("A title has 1 to 24 characters");
        for (int length = 0; length <= 26; length++) {
            int want = length >= 1 && length <= 24 ? 0 : BAD_TEXT;
            Checks.due("add() of " + length, Checks.addTitle(new TitleFinder(), Checks.letters(length)), want);
            Checks.due("ifAdded() of " + length, Checks.ifAdded(new TitleFinder(), Checks.letters(length)), want);
        }
        String[] words = {"a b c d e f g h i j k l", "a b c d e f g h i j k lm", "abcdefghijklmnopqrstuv x"};
        for (String title : words) {
            Checks.due("add() of <" + title + ">", Checks.addTitle(new TitleFinder(), title), 0);
        }
        String[] wrong = {"a b c d e f g h i j k l m", "abcdefghijklmnopqrstuv xy", "abcdefghijklmnopqrstuvw x"};
        for (String title : wrong) {
            Checks.due("add() of <" + title + ">", Checks.addTitle(new TitleFinder(), title), BAD_TEXT);
        }
    }

    private static void testBlanksOfTitle() {
        Checks.sentence("consists of words with one blank between two words");
        String[] right = {"a", "a b", "a b c", "ab cd", "0 1"};
        for (String title : right) {
            Checks.due("add() of <" + title + ">", Checks.addTitle(new TitleFinder(), title), 0);
        }
        String[] wrong = {" ", "  ", " a", "a ", " a b", "a b ", "a  b", "a b  c", "a   b", "abcdefghijklmnopqrstuvw "};
        for (String title : wrong) {
            Checks.due("add() of <" + title + ">", Checks.addTitle(new TitleFinder(), title), BAD_TEXT);
        }
    }

    private static boolean isLetter(int code) {
        return code >= 97 && code <= 122 || code >= 48 && code <= 57;
    }

    private static void testCharactersOfTitle() {
        Checks.sentence("a word consists of the characters \"a\" to \"z\" and \"0\" to \"9\"");
        for (int code = 32; code <= 126; code++) {
            String alone = "" + (char) code;
            int want = isLetter(code) ? 0 : BAD_TEXT;
            Checks.due("add() of <" + alone + ">", Checks.addTitle(new TitleFinder(), alone), want);
            Checks.due("add() of a" + alone, Checks.addTitle(new TitleFinder(), "a" + alone), want);
            int inside = code == 32 ? 0 : want;
            Checks.due("add() of a" + alone + "a", Checks.addTitle(new TitleFinder(), "a" + alone + "a"), inside);
        }
    }

    private static void testUsesAtFirst() {
        Checks.sentence("Each title has a number of uses, 0 at first.");
        TitleFinder finder = Checks.withTitles("a", "b");
        Checks.due("uses of a", finder.of(0, 2), 0);
        finder.pick(0);
        Checks.due("uses of a, picked", finder.of(0, 2), 1);
        Checks.due("uses of b", finder.of(1, 2), 0);
        finder.drop(0);
        Checks.addTitle(finder, "a");
        Checks.due("uses of a, dropped and added again", finder.of(1, 2), 0);
        Checks.runPlan(finder, "add c");
        Checks.due("uses of c, added by a plan", finder.of(2, 2), 0);
    }

    private static void dueByName(String one, String other) {
        TitleFinder finder = Checks.withTitles(one, other);
        finder.setOrder(2);
        Checks.dueResults(one + ", " + other, finder, 0, 1);
        finder = Checks.withTitles(other, one);
        finder.setOrder(2);
        Checks.dueResults(other + ", " + one, finder, 1, 0);
    }

    private static void testNameWithLowerCode() {
        Checks.sentence("it has the character with the lower code at the first place where both differ");
        dueByName("a", "b");
        dueByName("az", "ba");
        dueByName("aaa", "b");
        dueByName("a b", "a0");
        dueByName("a b", "aa");
        dueByName("a9", "aa");
        dueByName("0z", "a");
        dueByName("0", "9");
        dueByName("abz", "aca");
        dueByName(Checks.letters(24), Checks.letters(23) + "y");
    }

    private static void testNameThatIsBeginning() {
        Checks.sentence("or if it is the beginning of the other one");
        dueByName("a", "aa");
        dueByName("a", "a 0");
        dueByName("ab", "abc");
        dueByName(Checks.letters(23), Checks.letters(24));
        dueByName("a", Checks.letters(24));
    }

    private static void testShortestPiece() {
        Checks.sentence("A piece of a title has a start and a length of at least 1.");
        TitleFinder finder = Checks.withTitles("a", "b");
        for (int mode = 0; mode < 4; mode++) {
            finder.setMode(mode);
            Checks.dueKey("mode " + mode, finder, 0, 0, 1);
            Checks.dueKey("mode " + mode, finder, 1, 0, 1);
            Checks.dueShortcut("mode " + mode, finder, 0, 0, 1);
            Checks.dueShortcut("mode " + mode, finder, 1, 0, 1);
        }
    }

    private static void testPart() {
        Checks.sentence("a piece is any run of characters of the title that neither begins nor ends with a blank");
        // Without this, " ", "a " or " b" would be the key of the first title.
        TitleFinder finder = Checks.withTitles("a b", "ab");
        Checks.dueKey("a b", finder, 0, 0, 3);
        Checks.dueShortcut("a b", finder, 0, 0, 3);
        Checks.dueKey("ab", finder, 1, 0, 2);
        for (String query : new String[] {"a", "b", "a b"}) {
            Checks.askFor(finder, query);
            Checks.due("results() of " + query, finder.results(), query.length() == 3 ? 1 : 2);
        }
        TitleFinder inside = Checks.withTitles("xab c dey");
        String[] right = {"x", "y", "b c", "ab c de", "c d", "xab c dey"};
        for (String query : right) {
            Checks.askFor(inside, query);
            Checks.due("results() of " + query, inside.results(), 1);
        }
    }

    private static void testStartOfPart() {
        Checks.sentence("its start is the place of its first character");
        TitleFinder finder = Checks.withTitles("aaaaaaaaaaaaaaaaaaaaaa b", "a", "c d e");
        Checks.dueKey("the last of 24 characters", finder, 0, 23, 1);
        Checks.dueKey("the first character", finder, 2, 0, 1);
        Checks.dueKey("of two characters", Checks.withTitles("cccab", "cccca", "b"), 0, 3, 2);
        Checks.ask(finder, "b");
        Checks.due("matchPlace(0) of b", finder.matchPlace(0), 23);
        Checks.askFor(finder, "e");
        Checks.due("matchPlace(0) of e", finder.matchPlace(0), 4);
        Checks.askFor(finder, "d e");
        Checks.due("matchPlace(0) of d e", finder.matchPlace(0), 2);
    }

    private static void testStart() {
        Checks.sentence("likewise, but only pieces that start at place 0");
        TitleFinder finder = Checks.withTitles("ab", "b a", "a b");
        finder.setMode(1);
        Checks.ask(finder, "b");
        Checks.dueResults("b", finder, 1);
        Checks.askFor(finder, "a");
        Checks.dueResults("a", finder, 0, 2);
        Checks.duePlaces("a", finder, 0, 0);
        Checks.askFor(finder, "a b");
        Checks.dueResults("a b", finder, 2);
        Checks.dueKey("ab", finder, 0, 0, 2);
        Checks.dueKey("b a", finder, 1, 0, 1);
        Checks.dueKey("a b, whose a and blank is no piece", finder, 2, 0, 3);
    }

    private static void testWord() {
        Checks.sentence("likewise, but only pieces that start where a word starts");
        TitleFinder finder = Checks.withTitles("ab", "b a", "a b");
        finder.setMode(2);
        Checks.ask(finder, "b");
        Checks.dueResults("b", finder, 1, 2);
        Checks.duePlaces("b", finder, 0, 2);
        Checks.dueKey("ab", finder, 0, 0, 2);
        Checks.dueKey("b a", finder, 1, 0, 3);
        Checks.dueKey("a b", finder, 2, 0, 3);
        TitleFinder words = Checks.withTitles("ab cd ef");
        words.setMode(2);
        for (String query : new String[] {"a", "ab", "ab c", "ab cd e", "c", "cd e", "ef"}) {
            Checks.askFor(words, query);
            Checks.due("results() of " + query, words.results(), 1);
        }
        for (String query : new String[] {"b", "b c", "d", "f", "d ef"}) {
            Checks.askFor(words, query);
            Checks.due("results() of " + query, words.results(), 0);
        }
    }

    private static void testInitials() {
        Checks.sentence("the first characters of its words, one behind the other, without blanks");
        TitleFinder finder = Checks.withTitles("ab cd 0f", "xyz");
        finder.setMode(3);
        for (String query : new String[] {"a", "c", "0", "ac", "c0", "ac0", "x"}) {
            Checks.askFor(finder, query);
            Checks.due("results() of " + query, finder.results(), 1);
        }
        for (String query : new String[] {"b", "ab", "a c", "a0", "ac0f", "xy", "z"}) {
            Checks.askFor(finder, query);
            Checks.due("results() of " + query, finder.results(), 0);
        }
        TitleFinder most = Checks.withTitles("a b c d e f g h i j k l");
        most.setMode(3);
        Checks.ask(most, "abcdefghijkl");
        Checks.due("results() of twelve initials", most.results(), 1);
        Checks.ask(most, "m");
        Checks.due("results() of thirteen", most.results(), 0);
    }

    private static void testStartOfInitials() {
        Checks.sentence("its start is its place among the initials");
        TitleFinder finder = Checks.withTitles("aaaa bbbb cccc", "a", "a a a a a a a a a a a d");
        finder.setMode(3);
        Checks.dueKey("the second word", finder, 0, 1, 1);
        Checks.dueKey("the twelfth word", finder, 2, 11, 1);
        Checks.ask(finder, "c");
        Checks.due("matchPlace(0) of c", finder.matchPlace(0), 2);
        Checks.askFor(finder, "d");
        Checks.due("matchPlace(0) of d", finder.matchPlace(0), 11);
        Checks.askFor(finder, "bc");
        Checks.due("matchPlace(0) of bc", finder.matchPlace(0), 1);
    }

    private static void testModeAtAnyTime() {
        Checks.sentence("The mode can be changed at any time; it is 0 initially.");
        TitleFinder finder = new TitleFinder();
        Checks.due("mode()", finder.mode(), 0);
        Checks.due("setMode(3) without titles", finder.setMode(3), 0);
        Checks.due("setMode(0)", finder.setMode(0), 3);
        Checks.addTitle(finder, "ab cd");
        Checks.ask(finder, "cd");
        int[] results = {1, 0, 1, 0};
        for (int mode = 3; mode >= 0; mode--) {
            finder.setMode(mode);
            Checks.due("results() of cd in mode " + mode, finder.results(), results[mode]);
            Checks.dueText("the query in mode " + mode, Checks.queryOf(finder), "cd");
        }
        Checks.askFor(finder, "a b");
        Checks.due("setMode(3) with a blank in the query", finder.setMode(3), 0);
    }

    private static void testLengthOfQuery() {
        Checks.sentence("The query has at most 24 characters");
        TitleFinder finder = new TitleFinder();
        Checks.ask(finder, Checks.letters(23));
        Checks.due("ask(120), the 24th", finder.ask(120), 0);
        Checks.due("ask(121), the 25th", finder.ask(121), TitleFinder.LIMIT);
        Checks.dueText("query", Checks.queryOf(finder), Checks.letters(24));
        Checks.due("carryOut() of ask with 24", Checks.runPlan(finder, "ask z" + Checks.letters(23)), 1);
        Checks.dueText("query", Checks.queryOf(finder), "z" + Checks.letters(23));
        Checks.due("carryOut() of ask with 25", Checks.runPlan(finder, "ask " + Checks.letters(25)), BAD_TEXT);
        Checks.due("queryLength()", finder.queryLength(), 24);
    }

    private static void testCharactersOfQuery() {
        Checks.sentence("\"a\" to \"z\", \"0\" to \"9\" and blanks");
        for (int code = -2; code <= 300; code++) {
            TitleFinder finder = new TitleFinder();
            finder.ask('a');
            int want = isLetter(code) || code == 32 ? 0 : TitleFinder.BAD_VALUE;
            Checks.due("ask(" + code + ")", finder.ask(code), want);
            Checks.due("queryLength()", finder.queryLength(), want == 0 ? 2 : 1);
            if (code >= 33 && code <= 126) {
                int done = isLetter(code) ? 1 : BAD_TEXT;
                Checks.due("carryOut() of ask a" + (char) code, Checks.runPlan(finder, "ask a" + (char) code), done);
            }
        }
    }

    private static void testBlankFirst() {
        Checks.sentence("it never begins with a blank");
        TitleFinder finder = Checks.withTitles("a b");
        Checks.due("ask(32) on an empty query", finder.ask(32), TitleFinder.NOT_POSSIBLE);
        Checks.due("queryLength()", finder.queryLength(), 0);
        Checks.ask(finder, "a");
        finder.erase();
        Checks.due("ask(32) on an erased query", finder.ask(32), TitleFinder.NOT_POSSIBLE);
        Checks.ask(finder, "a");
        finder.pick(0);
        Checks.due("ask(32) after pick(0)", finder.ask(32), TitleFinder.NOT_POSSIBLE);
        Checks.runPlan(finder, "ask a;clear");
        Checks.due("ask(32) after clear", finder.ask(32), TitleFinder.NOT_POSSIBLE);
        Checks.due("carryOut() of ask with a blank first", Checks.runPlan(finder, "ask  a"), BAD_TEXT);
    }

    private static void testBlanksSideBySide() {
        Checks.sentence("and never has two blanks side by side");
        TitleFinder finder = new TitleFinder();
        Checks.ask(finder, "a ");
        Checks.due("ask(32) behind a blank", finder.ask(32), TitleFinder.NOT_POSSIBLE);
        Checks.dueText("query", Checks.queryOf(finder), "a ");
        Checks.ask(finder, "b ");
        finder.erase();
        Checks.due("ask(32) behind b", finder.ask(32), 0);
        finder.erase();
        finder.erase();
        Checks.due("ask(32) behind the first blank", finder.ask(32), TitleFinder.NOT_POSSIBLE);
        Checks.due("carryOut() of ask with two blanks", Checks.runPlan(finder, "ask a  b"), BAD_TEXT);
    }

    private static void testBlankAtEnd() {
        Checks.sentence("A blank at its end does not count.");
        TitleFinder finder = Checks.withTitles("c ab", "ab c", "ab");
        int[][] results = {{2, 1, 0}, {2, 1}, {2, 1, 0}};
        int[][] places = {{0, 0, 2}, {0, 0}, {0, 0, 2}};
        for (int mode = 0; mode < 3; mode++) {
            finder.setMode(mode);
            Checks.askFor(finder, "ab ");
            Checks.dueResults("ab with a blank in mode " + mode, finder, results[mode]);
            Checks.duePlaces("ab with a blank in mode " + mode, finder, places[mode]);
        }
        finder.setMode(3);
        Checks.askFor(finder, "a ");
        Checks.dueResults("a with a blank in mode 3", finder, 2, 1, 0);
        Checks.duePlaces("a with a blank in mode 3", finder, 0, 0, 1);
        TitleFinder longest = Checks.withTitles(Checks.letters(23));
        Checks.ask(longest, Checks.letters(23));
        Checks.due("ask(32) as the 24th", longest.ask(32), 1);
        Checks.due("pick(0) then", longest.pick(0), 0);
    }

    private static void testEmptyQueryMatches() {
        Checks.sentence("A title matches the query if the query is empty");
        TitleFinder finder = Checks.withCount(16);
        for (int mode = 0; mode < 4; mode++) {
            finder.setMode(mode);
            Checks.due("results() in mode " + mode, finder.results(), 16);
        }
        Checks.ask(finder, "x");
        Checks.due("erase()", finder.erase(), 16);
    }

    private static void testExactCharacters() {
        Checks.sentence("or if the title has a piece with exactly the characters of the query");
        TitleFinder finder = Checks.withTitles("abc", Checks.letters(24));
        String[] queries = {"abc", "abcd", "abd", "bc", "ac", "xabc", Checks.letters(24), Checks.letters(23) + "y"};
        int[] want = {2, 1, 0, 2, 0, 0, 1, 0};
        for (int i = 0; i < queries.length; i++) {
            Checks.askFor(finder, queries[i]);
            Checks.due("results() of " + queries[i], finder.results(), want[i]);
        }
        TitleFinder apart = Checks.withTitles("a b");
        Checks.ask(apart, "ab");
        Checks.due("results() of ab", apart.results(), 0);
    }

    private static void testLowestStartOfMatch() {
        Checks.sentence("The place of the match is the lowest start of such a piece");
        TitleFinder finder = Checks.withTitles("xaab aa aab");
        String[] queries = {"a", "aa", "aab", "aa a", "b"};
        int[] places = {1, 1, 1, 5, 3};
        for (int i = 0; i < queries.length; i++) {
            Checks.askFor(finder, queries[i]);
            Checks.due("matchPlace(0) of " + queries[i], finder.matchPlace(0), places[i]);
        }
        finder.setMode(2);
        Checks.askFor(finder, "aa");
        Checks.due("matchPlace(0) of aa in mode 2", finder.matchPlace(0), 5);
        Checks.askFor(finder, "aab");
        Checks.due("matchPlace(0) of aab in mode 2", finder.matchPlace(0), 8);
        finder.setMode(3);
        Checks.askFor(finder, "a");
        Checks.due("matchPlace(0) of a in mode 3", finder.matchPlace(0), 1);
    }

    private static void testPlaceOfEmptyQuery() {
        Checks.sentence("and 0 for the empty query");
        TitleFinder finder = Checks.withTitles("a b", "c");
        for (int mode = 0; mode < 4; mode++) {
            finder.setMode(mode);
            Checks.duePlaces("mode " + mode, finder, 0, 0);
        }
    }

    private static void testResultsAreAllThatMatch() {
        Checks.sentence("The results are all titles that match, in an order");
        TitleFinder finder = Checks.withTitles("b", "ac", "b c", "ca", "c b c");
        int[][] withC = {{3, 4, 1, 2}, {3, 4, 1, 2}, {1, 2, 4, 3}};
        for (int order = 0; order < 3; order++) {
            finder.setOrder(order);
            Checks.askFor(finder, "c");
            Checks.dueResults("c in order " + order, finder, withC[order]);
            Checks.askFor(finder, "x");
            Checks.dueResults("x in order " + order, finder);
            Checks.askFor(finder, "b c");
            Checks.dueResults("b c in order " + order, finder, 2, 4);
        }
    }

    private static void testOrderPlace() {
        Checks.sentence("the lower place of the match first; then the shorter title; then the lower number");
        TitleFinder places = Checks.withTitles("ba", "a long title", "bba");
        Checks.ask(places, "a");
        Checks.dueResults("the lower place", places, 1, 0, 2);
        TitleFinder lengths = Checks.withTitles("xab", "xa", "xabcd");
        Checks.ask(lengths, "a");
        Checks.dueResults("the shorter title", lengths, 1, 0, 2);
        TitleFinder numbers = Checks.withTitles("xac", "xab", "xaa");
        Checks.ask(numbers, "a");
        Checks.dueResults("the lower number", numbers, 0, 1, 2);
        TitleFinder initials = Checks.withTitles("c d a", "bbbbb a", "bbb a");
        initials.setMode(3);
        Checks.ask(initials, "a");
        Checks.dueResults("initials", initials, 2, 1, 0);
        initials.pick(2);
        Checks.ask(initials, "a");
        Checks.dueResults("uses do not matter", initials, 2, 1, 0);
    }

    private static void testOrderOften() {
        Checks.sentence("the more uses first; then by order 0");
        TitleFinder finder = Checks.withTitles("ba", "ab", "aa", "a", "baa");
        finder.setOrder(1);
        Checks.ask(finder, "a");
        Checks.dueResults("without uses", finder, 3, 1, 2, 0, 4);
        Checks.due("pick(4)", finder.pick(4), 4);
        Checks.ask(finder, "a");
        Checks.dueResults("one use", finder, 4, 3, 1, 2, 0);
        Checks.due("pick(3)", finder.pick(3), 2);
        Checks.ask(finder, "a");
        Checks.dueResults("two with one use", finder, 2, 4, 3, 1, 0);
        Checks.due("pick(1)", finder.pick(1), 4);
        Checks.ask(finder, "a");
        Checks.dueResults("two uses and one use", finder, 4, 2, 3, 1, 0);
    }

    private static void testOrderName() {
        Checks.sentence("order 2, \"name\": by name.");
        TitleFinder finder = Checks.withTitles("c", "b c", "a b c", "cc");
        Checks.ask(finder, "c");
        Checks.dueResults("by place", finder, 0, 3, 1, 2);
        finder.pick(0);
        finder.setOrder(2);
        Checks.ask(finder, "c");
        Checks.dueResults("by name", finder, 2, 1, 0, 3);
        Checks.duePlaces("by name", finder, 4, 2, 0, 0);
    }

    private static void testOrderAtAnyTime() {
        Checks.sentence("The order can be changed at any time; it is 0 initially.");
        TitleFinder finder = new TitleFinder();
        Checks.due("order()", finder.order(), 0);
        Checks.due("setOrder(2) without titles", finder.setOrder(2), 0);
        Checks.due("setOrder(0)", finder.setOrder(0), 2);
        Checks.runPlan(finder, "add b;add ab;ask b;pick 1;ask b");
        Checks.dueResults("by place", finder, 0, 1);
        finder.setOrder(1);
        Checks.dueResults("often", finder, 1, 0);
        finder.setOrder(0);
        Checks.dueResults("by place again", finder, 0, 1);
        finder.setOrder(2);
        Checks.dueResults("by name", finder, 1, 0);
        Checks.dueText("query", Checks.queryOf(finder), "b");
    }

    private static void testKnown() {
        Checks.sentence("A title is known by a piece if no other title has a piece with the same characters"
                + " (in the same mode).");
        TitleFinder finder = Checks.withTitles("b", "ab", "xx");
        Checks.dueKey("b is in ab", finder, 0, NONE, NONE);
        Checks.dueKey("twice in the same title", finder, 2, 0, 1);
        for (int mode = 1; mode < 4; mode++) {
            finder.setMode(mode);
            Checks.dueKey("b is no piece of ab in mode " + mode, finder, 0, 0, 1);
        }
        TitleFinder last = Checks.withCount(16);
        Checks.runPlan(last, "drop 15;add t");
        Checks.dueKey("t is in all others", last, 15, NONE, NONE);
        Checks.dueKey("t9", last, 9, 1, 1);
        Checks.dueKey("t14", last, 14, 1, 2);
        Checks.runPlan(last, "drop 15;add 9");
        Checks.dueKey("t9, whose 9 is in the last title", last, 9, 0, 2);
        Checks.dueKey("9", last, 15, NONE, NONE);
    }

    private static void testShortestKey() {
        Checks.sentence("The key of a title is the shortest piece by which it is known, of several the one with the"
                + " lowest start.");
        TitleFinder finder = Checks.withTitles("abx", "ab", "bcydz", "cd", "ba");
        Checks.dueKey("shorter, but behind", finder, 0, 2, 1);
        Checks.dueKey("of two with one length", finder, 2, 2, 1);
        Checks.dueKey("two characters", finder, 3, 0, 2);
        TitleFinder longest = Checks.withTitles("aaaaaaaaaaaaaaaaaaaaaaaa", "aaaaaaaaaaaaaaaaaaaaaaa");
        Checks.dueKey("24 characters", longest, 0, 0, 24);
        Checks.dueKey("23 of them", longest, 1, NONE, NONE);
    }

    private static void testNoKey() {
        Checks.sentence("A title has no key if it is not known by any of its pieces.");
        TitleFinder finder = Checks.withTitles("ab", "xab c", "ab cd");
        Checks.dueKey("mode 0", finder, 0, NONE, NONE);
        finder.setMode(1);
        Checks.dueKey("mode 1", finder, 0, NONE, NONE);
        finder.setMode(2);
        Checks.dueKey("mode 2", finder, 0, NONE, NONE);
        finder.setMode(3);
        Checks.dueKey("mode 3", finder, 0, NONE, NONE);
        TitleFinder whole = Checks.withTitles("ab", "ba");
        Checks.dueKey("only the whole title", whole, 0, 0, 2);
    }

    private static void testShortcut() {
        Checks.sentence("a piece of it with which, as the query, it would be the first result, in the order of now");
        TitleFinder finder = Checks.withTitles("b", "ab");
        Checks.dueShortcut("by place", finder, 0, 0, 1);
        Checks.dueShortcut("by place", finder, 1, 0, 1);
        finder.setOrder(2);
        Checks.dueShortcut("by name", finder, 0, NONE, NONE);
        finder.setOrder(1);
        Checks.dueShortcut("often", finder, 0, 0, 1);
        Checks.runPlan(finder, "ask ab;pick 0");
        Checks.dueShortcut("often, with one use", finder, 0, NONE, NONE);
        Checks.runPlan(finder, "ask b;pick 1");
        Checks.dueShortcut("often, with the same uses", finder, 0, 0, 1);
        finder.setMode(3);
        Checks.runPlan(finder, "add axx");
        Checks.dueShortcut("no shortcut among initials", finder, 2, NONE, NONE);
        // Where a piece stands several times, its lowest start counts, in the title and in the other ones.
        Checks.dueShortcut("twice in the title", Checks.withTitles("abba", "xa"), 0, 0, 1);
        Checks.dueShortcut("twice in another title", Checks.withTitles("ba", "a xxa", "b"), 0, 0, 2);
    }

    private static void testBestShortcut() {
        Checks.sentence("The best shortcut is the shortest one, of several the one with the lowest start.");
        TitleFinder finder = Checks.withTitles("xyz", "x");
        Checks.dueShortcut("of two with one length", finder, 0, 1, 1);
        finder = Checks.withTitles("abx", "a", "b");
        Checks.dueShortcut("shorter, but behind", finder, 0, 2, 1);
        finder = Checks.withTitles("ab", "a", "b");
        Checks.dueShortcut("only the whole title", finder, 0, 0, 2);
        finder = Checks.withTitles(Checks.letters(23) + "y", Checks.letters(24), "x");
        finder.setMode(1);
        Checks.dueShortcut("24 characters", finder, 1, 0, 24);
    }
}
