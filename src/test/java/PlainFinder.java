import java.util.ArrayList;
import java.util.Comparator;
import java.util.HashMap;
import java.util.List;
import java.util.Map;
import java.util.regex.Pattern;

/** The document's words in the plainest form, with the Java library; the random runs compare with it. */
final class PlainFinder {
    private static final String[] MODES = {"part", "start", "word", "initials"};
    private static final String[] ORDERS = {"place", "often", "name"};
    private static final Pattern TITLE = Pattern.compile("[a-z0-9]+( [a-z0-9]+)*");
    private static final Pattern NUMBERED = Pattern.compile("(drop|pick) [0-9]{1,2}");
    private static final List<String> ENDINGS = endings();
    private static final Map<String, List<Piece>> PIECES = new HashMap<>();

    private record Entry(String title, int uses) {
    }

    private record Piece(String signs, int start) {
    }

    private record State(List<Entry> entries, String query, int mode, int order) {
    }

    private List<Entry> entries = List.of();
    private String query = "";
    private int mode = 0;
    private int order = 0;
    private String text = "";
    private final List<State> saved = new ArrayList<>();

    // ---- text

    int type(int code) {
        if (code < 32 || code > 126) {
            return -2;
        }
        if (text.length() == 80) {
            return -4;
        }
        text += (char) code;
        return text.length();
    }

    int clearText() {
        int before = text.length();
        text = "";
        return before;
    }

    int syntaxError() {
        for (int i = 0; i < text.length(); i++) {
            if (!somePlanBeginsWith(text.substring(0, i + 1))) {
                return i;
            }
        }
        return isPlan(text) ? -6 : text.length();
    }

    private static boolean isTitle(String signs) {
        return signs.length() <= 24 && TITLE.matcher(signs).matches();
    }

    private static boolean isCommand(String signs) {
        if (signs.equals("clear") || NUMBERED.matcher(signs).matches()) {
            return true;
        }
        if (signs.startsWith("mode ")) {
            return List.of(MODES).contains(signs.substring(5));
        }
        if (signs.startsWith("order ")) {
            return List.of(ORDERS).contains(signs.substring(6));
        }
        return signs.startsWith("add ") && isTitle(signs.substring(4))
                || signs.startsWith("ask ") && isTitle(signs.substring(4));
    }

    private static boolean isPlan(String signs) {
        for (String command : signs.split(";", -1)) {
            if (!isCommand(command)) {
                return false;
            }
        }
        return true;
    }

    private static boolean somePlanBeginsWith(String signs) {
        for (String ending : ENDINGS) {
            if (isPlan(signs + ending)) {
                return true;
            }
        }
        return false;
    }

    /** All ends of one command of each kind: what is the beginning of a plan becomes one with one of them. */
    private static List<String> endings() {
        List<String> commands = new ArrayList<>(List.of("add a", "drop 0", "ask a", "pick 0", "clear"));
        for (String name : MODES) {
            commands.add("mode " + name);
        }
        for (String name : ORDERS) {
            commands.add("order " + name);
        }
        List<String> all = new ArrayList<>();
        for (String command : commands) {
            for (int i = 0; i <= command.length(); i++) {
                all.add(command.substring(i));
            }
        }
        return all;
    }

    int carryOut() {
        if (!isPlan(text)) {
            return -5;
        }
        State before = now();
        int done = 0;
        for (String command : text.split(";", -1)) {
            if (!obey(command)) {
                break;
            }
            done++;
        }
        text = "";
        save(before);
        return done;
    }

    private boolean obey(String command) {
        int blank = command.indexOf(' ');
        String argument = command.substring(blank + 1);
        switch (command.substring(0, Math.max(0, blank))) {
            case "add":
                return append(argument) >= 0;
            case "drop":
                return remove(Integer.parseInt(argument)) >= 0;
            case "mode":
                mode = List.of(MODES).indexOf(argument);
                return true;
            case "order":
                order = List.of(ORDERS).indexOf(argument);
                return true;
            case "ask":
                query = argument;
                return true;
            case "pick":
                return take(Integer.parseInt(argument)) >= 0;
            default:
                query = "";
                return true;
        }
    }

    // ---- titles

    private int append(String title) {
        for (Entry entry : entries) {
            if (entry.title.equals(title)) {
                return -3;
            }
        }
        if (entries.size() == 16) {
            return -4;
        }
        entries = new ArrayList<>(entries);
        entries.add(new Entry(title, 0));
        return entries.size() - 1;
    }

    private int remove(int title) {
        if (!has(title)) {
            return -1;
        }
        entries = new ArrayList<>(entries);
        entries.remove(title);
        return entries.size();
    }

    private boolean has(int title) {
        return title >= 0 && title < entries.size();
    }

    int add() {
        if (!isTitle(text)) {
            return -5;
        }
        State before = now();
        int answer = append(text);
        if (answer >= 0) {
            text = "";
            save(before);
        }
        return answer;
    }

    int drop(int title) {
        State before = now();
        int answer = remove(title);
        if (answer >= 0) {
            save(before);
        }
        return answer;
    }

    int titles() {
        return entries.size();
    }

    int character(int title, int place) {
        if (!has(title) || place < 0 || place >= entries.get(title).title.length()) {
            return -1;
        }
        return entries.get(title).title.charAt(place);
    }

    int of(int title, int what) {
        if (!has(title)) {
            return -1;
        }
        Piece key = key(title);
        Piece shortcut = shortcut(title);
        switch (what) {
            case 0:
                return entries.get(title).title.length();
            case 1:
                return entries.get(title).title.split(" ").length;
            case 2:
                return entries.get(title).uses;
            case 3:
                return key == null ? -6 : key.start;
            case 4:
                return key == null ? -6 : key.signs.length();
            case 5:
                return shortcut == null ? -6 : shortcut.start;
            case 6:
                return shortcut == null ? -6 : shortcut.signs.length();
            default:
                return -2;
        }
    }

    /** Of the present mode, the shorter ones first, of those with one length the lower starts first. */
    private List<Piece> pieces(int title) {
        String whole = entries.get(title).title;
        return PIECES.computeIfAbsent(mode + whole, unused -> piecesOf(whole, mode));
    }

    private static List<Piece> piecesOf(String whole, int mode) {
        String run = whole;
        if (mode == 3) {
            run = "";
            for (String word : whole.split(" ")) {
                run += word.charAt(0);
            }
        }
        List<Piece> all = new ArrayList<>();
        for (int length = 1; length <= run.length(); length++) {
            for (int start = 0; start + length <= run.length(); start++) {
                String signs = run.substring(start, start + length);
                boolean trimmed = !signs.startsWith(" ") && !signs.endsWith(" ");
                boolean atWord = start == 0 || run.charAt(start - 1) == ' ';
                if (trimmed && (mode != 1 || start == 0) && (mode != 2 || atWord)) {
                    all.add(new Piece(signs, start));
                }
            }
        }
        return all;
    }

    private int placeOf(int title, String signs) {
        if (signs.isEmpty()) {
            return 0;
        }
        for (Piece piece : pieces(title)) {
            if (piece.signs.equals(signs)) {
                return piece.start;
            }
        }
        return -1;
    }

    private Piece key(int title) {
        for (Piece piece : pieces(title)) {
            boolean known = true;
            for (int other = 0; other < entries.size(); other++) {
                known &= other == title || placeOf(other, piece.signs) < 0;
            }
            if (known) {
                return piece;
            }
        }
        return null;
    }

    private Piece shortcut(int title) {
        for (Piece piece : pieces(title)) {
            if (ranked(piece.signs).get(0) == title) {
                return piece;
            }
        }
        return null;
    }

    int common(int first, int second) {
        if (!has(first) || !has(second)) {
            return -1;
        }
        String one = entries.get(first).title;
        int longest = 0;
        for (int i = 0; i < one.length(); i++) {
            for (int j = i + 1; j <= one.length(); j++) {
                if (entries.get(second).title.contains(one.substring(i, j))) {
                    longest = Math.max(longest, j - i);
                }
            }
        }
        return longest;
    }

    int closest(int title) {
        if (!has(title)) {
            return -1;
        }
        int found = -6;
        for (int i = 0; i < entries.size(); i++) {
            if (i != title && (found < 0 || common(title, i) > common(title, found))) {
                found = i;
            }
        }
        return found;
    }

    int unknown() {
        int without = 0;
        for (int i = 0; i < entries.size(); i++) {
            without += key(i) == null ? 1 : 0;
        }
        return without;
    }

    int hardest() {
        int found = -6;
        for (int i = 0; i < entries.size(); i++) {
            if (key(i) != null && (found < 0 || key(i).signs.length() > key(found).signs.length())) {
                found = i;
            }
        }
        return found;
    }

    int ifAdded() {
        if (!isTitle(text)) {
            return -5;
        }
        List<Entry> before = entries;
        List<String> keys = new ArrayList<>();
        for (int i = 0; i < before.size(); i++) {
            keys.add(String.valueOf(key(i)));
        }
        int answer = append(text);
        if (answer >= 0) {
            answer = 0;
            for (int i = 0; i < before.size(); i++) {
                answer += keys.get(i).equals(String.valueOf(key(i))) ? 0 : 1;
            }
        }
        entries = before;
        return answer;
    }

    // ---- modes and orders

    int setMode(int value) {
        if (value < 0 || value > 3) {
            return -2;
        }
        save(now());
        int before = mode;
        mode = value;
        return before;
    }

    int setOrder(int value) {
        if (value < 0 || value > 2) {
            return -2;
        }
        save(now());
        int before = order;
        order = value;
        return before;
    }

    int mode() {
        return mode;
    }

    int order() {
        return order;
    }

    // ---- query and results

    int ask(int code) {
        if (!(code >= 'a' && code <= 'z' || code >= '0' && code <= '9' || code == ' ')) {
            return -2;
        }
        if (code == ' ' && (query.isEmpty() || query.endsWith(" "))) {
            return -3;
        }
        if (query.length() == 24) {
            return -4;
        }
        save(now());
        query += (char) code;
        return results();
    }

    int erase() {
        if (query.isEmpty()) {
            return -3;
        }
        save(now());
        query = query.substring(0, query.length() - 1);
        return results();
    }

    int queryLength() {
        return query.length();
    }

    int queryCharacter(int place) {
        return place < 0 || place >= query.length() ? -1 : query.charAt(place);
    }

    private List<Integer> ranked(String signs) {
        List<Integer> all = new ArrayList<>();
        for (int i = 0; i < entries.size(); i++) {
            if (placeOf(i, signs) >= 0) {
                all.add(i);
            }
        }
        Comparator<Integer> byPlace = Comparator.comparing((Integer i) -> placeOf(i, signs))
                .thenComparing(i -> entries.get(i).title.length())
                .thenComparing(i -> i);
        Comparator<Integer> often = Comparator.comparing((Integer i) -> -entries.get(i).uses).thenComparing(byPlace);
        Comparator<Integer> byName = Comparator.comparing((Integer i) -> entries.get(i).title);
        all.sort(order == 0 ? byPlace : order == 1 ? often : byName);
        return all;
    }

    private List<Integer> ranked() {
        return ranked(query.strip());
    }

    int results() {
        return ranked().size();
    }

    int result(int rank) {
        return rank < 0 || rank >= results() ? -1 : ranked().get(rank);
    }

    int matchPlace(int rank) {
        return rank < 0 || rank >= results() ? -1 : placeOf(ranked().get(rank), query.strip());
    }

    private int take(int rank) {
        if (rank < 0 || rank >= results()) {
            return -1;
        }
        int title = ranked().get(rank);
        entries = new ArrayList<>(entries);
        entries.set(title, new Entry(entries.get(title).title, entries.get(title).uses + 1));
        query = "";
        return title;
    }

    int pick(int rank) {
        State before = now();
        int answer = take(rank);
        if (answer >= 0) {
            save(before);
        }
        return answer;
    }

    // ---- undo

    private State now() {
        return new State(entries, query, mode, order);
    }

    private void save(State state) {
        saved.add(state);
        if (saved.size() > 6) {
            saved.remove(0);
        }
    }

    int undo() {
        if (saved.isEmpty()) {
            return -3;
        }
        State last = saved.remove(saved.size() - 1);
        entries = last.entries;
        query = last.query;
        mode = last.mode;
        order = last.order;
        return saved.size();
    }

    long digest() {
        List<Integer> values = new ArrayList<>();
        values.add(titles());
        for (int i = 0; i < titles(); i++) {
            for (int what = 0; what <= 6; what++) {
                values.add(of(i, what));
            }
            entries.get(i).title.chars().forEach(values::add);
        }
        values.addAll(List.of(unknown(), hardest(), mode, order, queryLength()));
        query.chars().forEach(values::add);
        values.add(results());
        for (int rank = 0; rank < results(); rank++) {
            values.add(result(rank));
            values.add(matchPlace(rank));
        }
        long hash = 163;
        for (int value : values) {
            hash = 31 * hash + value;
        }
        return hash;
    }
}
