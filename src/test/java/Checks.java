import java.util.function.Consumer;
import java.util.function.ToLongFunction;

/** What the tests share: they print each answer that is not due and end with exit code 1 if there was one. */
final class Checks {
    /** More than any title, query or row of saved states has, so that the tests of a broken program end, too. */
    private static final int MOST = 30;

    private static int checked = 0;
    private static int wrong = 0;
    private static int sentences = 0;
    private static String sentence = "";

    private Checks() {
    }

    /** Says which words of the document the answers behind it are due to. */
    static void sentence(String words) {
        sentences++;
        sentence = "\"" + words + "\": ";
    }

    static void due(String call, long got, long want) {
        checked++;
        if (got != want) {
            wrong++;
            System.out.println(sentence + call + " answered " + got + ", due is " + want);
        }
    }

    static void end() {
        String told = sentences == 0 ? "" : " for " + sentences + " sentences";
        System.out.println(checked + " answers" + told + ", " + wrong + " not as due");
        if (wrong != 0 || checked == 0) {
            System.exit(1);
        }
    }

    static void type(TitleFinder finder, String text) {
        for (int i = 0; i < text.length(); i++) {
            finder.type(text.charAt(i));
        }
    }

    /** Replaces the text. */
    static void write(TitleFinder finder, String text) {
        finder.clearText();
        type(finder, text);
    }

    static int addTitle(TitleFinder finder, String title) {
        write(finder, title);
        return finder.add();
    }

    static int runPlan(TitleFinder finder, String plan) {
        write(finder, plan);
        return finder.carryOut();
    }

    static int ifAdded(TitleFinder finder, String title) {
        write(finder, title);
        return finder.ifAdded();
    }

    static TitleFinder withTitles(String... titles) {
        TitleFinder finder = new TitleFinder();
        for (String title : titles) {
            addTitle(finder, title);
        }
        return finder;
    }

    static void ask(TitleFinder finder, String query) {
        for (int i = 0; i < query.length(); i++) {
            finder.ask(query.charAt(i));
        }
    }

    static void emptyQuery(TitleFinder finder) {
        for (int i = 0; i < MOST && finder.queryLength() > 0; i++) {
            finder.erase();
        }
    }

    static String titleOf(TitleFinder finder, int title) {
        StringBuilder letters = new StringBuilder();
        for (int place = 0; place < MOST && finder.character(title, place) >= 0; place++) {
            letters.append((char) finder.character(title, place));
        }
        return letters.toString();
    }

    static String queryOf(TitleFinder finder) {
        StringBuilder signs = new StringBuilder();
        for (int place = 0; place < MOST && finder.queryCharacter(place) >= 0; place++) {
            signs.append((char) finder.queryCharacter(place));
        }
        return signs.toString();
    }

    static void dueText(String what, String got, String want) {
        due(what + " <" + got + ">, due is <" + want + ">:", got.equals(want) ? 1 : 0, 1);
    }

    /** The results' numbers, in their order. */
    static void dueResults(String what, TitleFinder finder, int... want) {
        due(what + ": results()", finder.results(), want.length);
        for (int rank = 0; rank < want.length; rank++) {
            due(what + ": result(" + rank + ")", finder.result(rank), want[rank]);
        }
        due(what + ": result(" + want.length + ")", finder.result(want.length), TitleFinder.NO_SUCH);
        due(what + ": result(-1)", finder.result(-1), TitleFinder.NO_SUCH);
    }

    static void dueKey(String what, TitleFinder finder, int title, int start, int length) {
        due(what + ": start of the key of " + title, finder.of(title, 3), start);
        due(what + ": length of the key of " + title, finder.of(title, 4), length);
    }

    static void dueShortcut(String what, TitleFinder finder, int title, int start, int length) {
        due(what + ": start of the shortcut of " + title, finder.of(title, 5), start);
        due(what + ": length of the shortcut of " + title, finder.of(title, 6), length);
    }

    /** The answer of a refused call, and that an object without this call answers the same from there on. */
    static void dueRefused(String call, Consumer<TitleFinder> before, ToLongFunction<TitleFinder> refused, long want) {
        TitleFinder finder = new TitleFinder();
        before.accept(finder);
        due(call, refused.applyAsLong(finder), want);
        TitleFinder twin = new TitleFinder();
        before.accept(twin);
        dueText("what is seen after " + call, everythingOf(finder), everythingOf(twin));
    }

    /** All that can be seen of an object: its state, its text and its saved states; it is used up by that. */
    static String everythingOf(TitleFinder finder) {
        StringBuilder seen = new StringBuilder();
        seen.append(finder.digest()).append(' ').append(finder.syntaxError()).append(' ').append(finder.ifAdded());
        int left = finder.undo();
        for (int i = 0; i < MOST && left >= 0; i++) {
            seen.append(" undo ").append(left).append(' ').append(finder.digest());
            left = finder.undo();
        }
        seen.append(" plan ").append(finder.carryOut()).append(' ').append(finder.digest());
        seen.append(" title ").append(finder.add()).append(' ').append(finder.digest());
        return seen.append(" text ").append(finder.clearText()).toString();
    }

    /** Titles t0, t1 and so on. */
    static TitleFinder withCount(int count) {
        TitleFinder finder = new TitleFinder();
        for (int i = 0; i < count; i++) {
            addTitle(finder, "t" + i);
        }
        return finder;
    }

    /** The first characters of the alphabet. */
    static String letters(int count) {
        return "abcdefghijklmnopqrstuvwxyz".substring(0, count);
    }

    static void duePlaces(String what, TitleFinder finder, int... want) {
        for (int rank = 0; rank < want.length; rank++) {
            due(what + ": matchPlace(" + rank + ")", finder.matchPlace(rank), want[rank]);
        }
        due(what + ": matchPlace(" + want.length + ")", finder.matchPlace(want.length), TitleFinder.NO_SUCH);
    }

    /** Replaces the query. */
    static void askFor(TitleFinder finder, String query) {
        emptyQuery(finder);
        ask(finder, query);
    }
}
