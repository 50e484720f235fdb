/** What the tests share: they print each answer that is not due and end with exit code 1 if there was one. */
final class Checks {
    private static int checked = 0;
    private static int wrong = 0;

    private Checks() {
    }

    static void due(String call, long got, long want) {
        checked++;
        if (got != want) {
            wrong++;
            System.out.println(call + " answered " + got + ", due is " + want);
        }
    }

    static void end() {
        System.out.println(checked + " answers, " + wrong + " not as due");
        if (wrong != 0 || checked == 0) {
            System.exit(1);
        }
    }

    static void type(TitleFinder finder, String text) {
        for (int i = 0; i < text.length(); i++) {
            finder.type(text.charAt(i));
        }
    }

    /** Replaces the text. */
    static void write(TitleFinder finder, String text) {
        finder.clearText();
        type(finder, text);
    }

    static int addTitle(TitleFinder finder, String title) {
        write(finder, title);
        return finder.add();
    }

    static int runPlan(TitleFinder finder, String plan) {
        write(finder, plan);
        return finder.carryOut();
    }

    static int ifAdded(TitleFinder finder, String title) {
        write(finder, title);
        return finder.ifAdded();
    }

    static TitleFinder withTitles(String... titles) {
        TitleFinder finder = new TitleFinder();
        for (String title : titles) {
            addTitle(finder, title);
        }
        return finder;
    }

    static void ask(TitleFinder finder, String query) {
        for (int i = 0; i < query.length(); i++) {
            finder.ask(query.charAt(i));
        }
    }

    static void emptyQuery(TitleFinder finder) {
        while (finder.queryLength() > 0) {
            finder.erase();
        }
    }

    static String titleOf(TitleFinder finder, int title) {
        StringBuilder letters = new StringBuilder();
        for (int place = 0; finder.character(title, place) >= 0; place++) {
            letters.append((char) finder.character(title, place));
        }
        return letters.toString();
    }

    static String queryOf(TitleFinder finder) {
        StringBuilder signs = new StringBuilder();
        for (int place = 0; finder.queryCharacter(place) >= 0; place++) {
            signs.append((char) finder.queryCharacter(place));
        }
        return signs.toString();
    }

    static void dueText(String what, String got, String want) {
        due(what + " <" + got + ">, due is <" + want + ">:", got.equals(want) ? 1 : 0, 1);
    }

    /** The results' numbers, in their order. */
    static void dueResults(String what, TitleFinder finder, int... want) {
        due(what + ": results()", finder.results(), want.length);
        for (int rank = 0; rank < want.length; rank++) {
            due(what + ": result(" + rank + ")", finder.result(rank), want[rank]);
        }
        due(what + ": result(" + want.length + ")", finder.result(want.length), TitleFinder.NO_SUCH);
        due(what + ": result(-1)", finder.result(-1), TitleFinder.NO_SUCH);
    }

    static void dueKey(String what, TitleFinder finder, int title, int start, int length) {
        due(what + ": start of the key of " + title, finder.of(title, 3), start);
        due(what + ": length of the key of " + title, finder.of(title, 4), length);
    }

    static void dueShortcut(String what, TitleFinder finder, int title, int start, int length) {
        due(what + ": start of the shortcut of " + title, finder.of(title, 5), start);
        due(what + ": length of the shortcut of " + title, finder.of(title, 6), length);
    }
}
