/** Runs of 512 calls, always the same ones, whose answers are compared with those of PlainFinder. */
public final class RandomRunsTest {
    private static final int RUNS = 400;
    private static final int CALLS = 512;
    private static final String[] MODES = {"part", "start", "word", "initials"};
    private static final String[] ORDERS = {"place", "often", "name"};

    private static long seed;
    private static TitleFinder finder;
    private static PlainFinder plain;
    private static int calls;
    private static String run;
    private static int letters;
    private static int longest;

    private RandomRunsTest() {
    }

    public static void main(String[] args) {
        for (int i = 0; i < RUNS; i++) {
            runCalls(i);
        }
        Checks.end();
    }

    private static int below(int bound) {
        seed = seed * 6364136223846793005L + 1442695040888963407L;
        return (int) ((seed >>> 33) % bound);
    }

    private static void runCalls(int number) {
        seed = 7919L * number + 1;
        finder = new TitleFinder();
        plain = new PlainFinder();
        calls = 0;
        run = "run " + number;
        letters = 1 + below(4);
        longest = number % 3 == 0 ? 24 : number % 3 == 1 ? 4 : 9;
        boolean planned = below(2) == 0;
        while (calls < CALLS) {
            int kind = below(planned ? 12 : 24);
            if (kind < 3) {
                writeAndUse(plan());
            } else if (kind == 3) {
                writeAndUse(garbled(below(2) == 0 ? plan() : title()));
            } else if (kind < 6) {
                writeAndUse(title());
            } else {
                look();
            }
        }
    }

    private static void due(String call, long got, long want) {
        Checks.due(run + ", call " + calls + ": " + call, got, want);
        calls++;
    }

    private static char letter() {
        return "ab0cz9".charAt(below(letters));
    }

    private static String title() {
        StringBuilder signs = new StringBuilder();
        int length = 1 + below(longest);
        for (int i = 0; i < length; i++) {
            boolean blank = i > 0 && i + 1 < length && signs.charAt(i - 1) != ' ' && below(4) == 0;
            signs.append(blank ? ' ' : letter());
        }
        return signs.toString();
    }

    private static String number() {
        int value = below(6) == 0 ? below(100) : below(4);
        return value < 10 && below(4) > 0 ? "" + value : value < 10 ? "0" + value : "" + value;
    }

    private static String command() {
        switch (below(10)) {
            case 0:
                return "drop " + number();
            case 1:
                return "mode " + MODES[below(4)];
            case 2:
                return "order " + ORDERS[below(3)];
            case 3:
                return "ask " + title();
            case 4:
                return "pick " + number();
            case 5:
                return "clear";
            default:
                return "add " + title();
        }
    }

    private static String plan() {
        StringBuilder signs = new StringBuilder(command());
        int more = below(8);
        for (int i = 0; i < more; i++) {
            String next = command();
            if (signs.length() + 1 + next.length() <= 80) {
                signs.append(';').append(next);
            }
        }
        return signs.toString();
    }

    private static String garbled(String signs) {
        int place = below(signs.length());
        switch (below(4)) {
            case 0:
                return signs.substring(0, place);
            case 1:
                return signs.substring(0, place) + signs.substring(place + 1);
            case 2:
                return signs.substring(0, place) + "; aA0~/".charAt(below(7)) + signs.substring(place);
            default:
                return signs + ";";
        }
    }

    private static void writeAndUse(String signs) {
        if (below(12) > 0) {
            due("clearText()", finder.clearText(), plain.clearText());
        }
        for (int i = 0; i < signs.length() && calls < CALLS; i++) {
            int code = signs.charAt(i);
            due("type(" + code + ")", finder.type(code), plain.type(code));
        }
        if (calls < CALLS) {
            due("syntaxError() of " + signs, finder.syntaxError(), plain.syntaxError());
        }
        if (calls < CALLS && below(2) == 0) {
            due("ifAdded() of " + signs, finder.ifAdded(), plain.ifAdded());
        }
        if (calls < CALLS) {
            due("carryOut() of " + signs, finder.carryOut(), plain.carryOut());
        }
        if (calls < CALLS) {
            due("add() of " + signs, finder.add(), plain.add());
        }
        if (calls < CALLS) {
            due("digest()", finder.digest(), plain.digest());
        }
    }

    private static int argument() {
        return below(12) == 0 ? -1 - below(3) : below(5) == 0 ? below(30) : below(4);
    }

    private static void look() {
        int a = argument();
        int b = argument();
        switch (below(24)) {
            case 0 -> due("drop(" + a + ")", finder.drop(a), plain.drop(a));
            case 1 -> due("titles()", finder.titles(), plain.titles());
            case 2 -> due("character(" + a + ", " + b + ")", finder.character(a, b), plain.character(a, b));
            case 3 -> due("common(" + a + ", " + b + ")", finder.common(a, b), plain.common(a, b));
            case 4 -> due("closest(" + a + ")", finder.closest(a), plain.closest(a));
            case 5 -> due("unknown()", finder.unknown(), plain.unknown());
            case 6 -> due("hardest()", finder.hardest(), plain.hardest());
            case 7 -> due("setMode(" + a + ")", finder.setMode(a), plain.setMode(a));
            case 8 -> due("setOrder(" + a + ")", finder.setOrder(a), plain.setOrder(a));
            case 9 -> due("mode()", finder.mode(), plain.mode());
            case 10 -> due("order()", finder.order(), plain.order());
            case 11, 12, 13, 14 -> askOne();
            case 15 -> due("erase()", finder.erase(), plain.erase());
            case 16 -> due("queryLength()", finder.queryLength(), plain.queryLength());
            case 17 -> due("queryCharacter(" + a + ")", finder.queryCharacter(a), plain.queryCharacter(a));
            case 18 -> due("results()", finder.results(), plain.results());
            case 19 -> due("result(" + a + ")", finder.result(a), plain.result(a));
            case 20 -> due("matchPlace(" + a + ")", finder.matchPlace(a), plain.matchPlace(a));
            case 21 -> due("pick(" + a + ")", finder.pick(a), plain.pick(a));
            case 22 -> due("undo()", finder.undo(), plain.undo());
            default -> due("of(" + a + ", " + b + ")", finder.of(a, b), plain.of(a, b));
        }
        if (calls < CALLS) {
            due("digest()", finder.digest(), plain.digest());
        }
    }

    private static void askOne() {
        int code = below(10) == 0 ? below(300) - 50 : below(4) == 0 ? ' ' : letter();
        due("ask(" + code + ")", finder.ask(code), plain.ask(code));
    }
}
