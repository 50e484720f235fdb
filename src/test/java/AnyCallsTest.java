/** Calls with any arguments in any state, and more of them than are promised: none may throw or fail to end. */
public final class AnyCallsTest {
    private static final int CALLS = 60_000;
    private static final int[] VALUES = {Integer.MIN_VALUE, Integer.MIN_VALUE + 1, -65536, -1, 0, 1, 2, 3, 6, 7, 15, 16,
        17, 24, 25, 31, 32, 48, 57, 79, 80, 81, 97, 98, 122, 126, 127, 65633, Integer.MAX_VALUE - 1, Integer.MAX_VALUE};
    private static final String PLANS = "add a b c;add abcdefghijklmnopqrstuvwx;ask b;pick 0;drop 15;mode initials;"
            + "add b;add c a;mode part;order often;pick 1;add bca;mode word;order name;clear;drop 0";

    private static long seed = 1;

    private AnyCallsTest() {
    }

    public static void main(String[] args) {
        TitleFinder finder = new TitleFinder();
        int refused = 0;
        for (int i = 0; i < CALLS; i++) {
            refused += below(9) == 0 ? usePlan(finder) : call(finder) < 0 ? 1 : 0;
        }
        Checks.due("some calls are refused", refused > 0 ? 1 : 0, 1);
        Checks.due("titles() stays within its limit", finder.titles() <= 16 ? 1 : 0, 1);
        Checks.due("queryLength() stays within its limit", finder.queryLength() <= 24 ? 1 : 0, 1);
        Checks.end();
    }

    private static int below(int bound) {
        seed = seed * 6364136223846793005L + 1442695040888963407L;
        return (int) ((seed >>> 33) % bound);
    }

    private static int usePlan(TitleFinder finder) {
        String[] commands = PLANS.split(";");
        finder.clearText();
        int count = 1 + below(4);
        for (int i = 0; i < count; i++) {
            Checks.type(finder, (i == 0 ? "" : ";") + commands[below(commands.length)]);
        }
        return finder.carryOut() < 0 ? 1 : 0;
    }

    private static long call(TitleFinder finder) {
        int a = VALUES[below(VALUES.length)];
        int b = VALUES[below(VALUES.length)];
        switch (below(28)) {
            case 0: return finder.type(a);
            case 1: return finder.clearText();
            case 2: return finder.syntaxError();
            case 3: return finder.carryOut();
            case 4: return finder.add();
            case 5: return finder.drop(a);
            case 6: return finder.titles();
            case 7: return finder.character(a, b);
            case 8: return finder.of(a, b);
            case 9: return finder.common(a, b);
            case 10: return finder.closest(a);
            case 11: return finder.unknown();
            case 12: return finder.hardest();
            case 13: return finder.ifAdded();
            case 14: return finder.setMode(a);
            case 15: return finder.setOrder(a);
            case 16: return finder.mode();
            case 17: return finder.order();
            case 18: return finder.ask(a);
            case 19: return finder.erase();
            case 20: return finder.queryLength();
            case 21: return finder.queryCharacter(a);
            case 22: return finder.results();
            case 23: return finder.result(a);
            case 24: return finder.matchPlace(a);
            case 25: return finder.pick(a);
            case 26: return finder.undo();
            default: return finder.digest();
        }
    }
}
