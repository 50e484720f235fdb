import java.util.ArrayList;

/** A search box for titles that tells the shortest part of each title by which it is known. */
public final class TitleFinder {
    public static final int NO_SUCH = -1;
    public static final int BAD_VALUE = -2;
    public static final int NOT_POSSIBLE = -3;
    public static final int LIMIT = -4;
    public static final int BAD_TEXT = -5;
    public static final int NONE = -6;

    private static final int MOST_TITLES = 16;
    private static final int MOST_LETTERS = 24;
    private static final int MOST_TEXT = 80;
    private static final int MOST_SAVED = 6;

    private static final int MODE_PART = 0;
    private static final int MODE_START = 1;
    private static final int MODE_WORD = 2;
    private static final int MODE_INITIALS = 3;

    private static final int ORDER_PLACE = 0;
    private static final int ORDER_OFTEN = 1;
    private static final int ORDER_NAME = 2;

    private static final int LAST_NUMBER = 6;
    private static final long FIRST_HASH = 163;

    private final State state;
    /** The state as it would be with one title more; kept apart so that asking changes nothing. */
    private final State trial;
    private final History history;
    private final Text text;
    private final Ranking ranking;
    private final Study study;

    public TitleFinder() {
        state = new State();
        trial = new State();
        history = new History();
        text = new Text();
        ranking = new Ranking();
        study = new Study();
    }

    // ---- text

    public int type(int code) {
        if (code < 32 || code > 126) {
            return BAD_VALUE;
        }
        if (!text.append((char) code)) {
            return LIMIT;
        }
        return text.length;
    }

    public int clearText() {
        int before = text.length;
        text.makeEmpty();
        return before;
    }

    public int syntaxError() {
        return text.findFault();
    }

    public int carryOut() {
        if (text.findFault() != NONE) {
            return BAD_TEXT;
        }
        history.save(state);
        text.rewind();
        int done = 0;
        while (done < MOST_TEXT && text.passCommand() && obeyed()) {
            done++;
            if (!text.passSemicolon()) {
                break;
            }
        }
        text.makeEmpty();
        return done;
    }

    /** Carries out the command that was read last; false if it is not possible. */
    private boolean obeyed() {
        switch (text.command) {
            case Text.ADD:
                return addIfPossible(text.passedTitle()) >= 0;
            case Text.DROP:
                return dropIfThere(text.value);
            case Text.MODE:
                state.mode = text.value;
                return true;
            case Text.ORDER:
                state.order = text.value;
                return true;
            case Text.ASK:
                text.copyPassed(state);
                return true;
            case Text.PICK:
                return pickIfThere(text.value) >= 0;
            case Text.CLEAR:
                state.queryLength = 0;
                return true;
            default:
                return false;
        }
    }

    // ---- titles

    public int add() {
        if (!text.isTitle()) {
            return BAD_TEXT;
        }
        Title title = text.passedTitle();
        int refused = state.refusal(title);
        if (refused < 0) {
            return refused;
        }
        history.save(state);
        text.makeEmpty();
        return addIfPossible(title);
    }

    private int addIfPossible(Title title) {
        int refused = state.refusal(title);
        if (refused < 0) {
            return refused;
        }
        state.titles.add(title);
        return state.titles.size() - 1;
    }

    public int drop(int title) {
        if (!state.has(title)) {
            return NO_SUCH;
        }
        history.save(state);
        dropIfThere(title);
        return state.titles.size();
    }

    private boolean dropIfThere(int title) {
        if (!state.has(title)) {
            return false;
        }
        state.titles.remove(title);
        return true;
    }

    public int titles() {
        return state.titles.size();
    }

    public int character(int title, int place) {
        if (!state.has(title)) {
            return NO_SUCH;
        }
        char[] letters = state.titles.get(title).letters;
        if (place < 0 || place >= letters.length) {
            return NO_SUCH;
        }
        return letters[place];
    }

    public int of(int title, int what) {
        if (!state.has(title)) {
            return NO_SUCH;
        }
        if (what < 0 || what > LAST_NUMBER) {
            return BAD_VALUE;
        }
        study.look(state, title);
        return studiedNumber(state.titles.get(title), what);
    }

    /** A number of the title that was studied last. */
    private int studiedNumber(Title title, int what) {
        switch (what) {
            case 0:
                return title.letters.length;
            case 1:
                return title.initials.length;
            case 2:
                return title.uses;
            case 3:
                return study.hasKey() ? study.keyStart : NONE;
            case 4:
                return study.hasKey() ? study.keyLength : NONE;
            case 5:
                return study.hasShortcut() ? study.shortcutStart : NONE;
            case 6:
                return study.hasShortcut() ? study.shortcutLength : NONE;
            default:
                return BAD_VALUE;
        }
    }

    public int common(int first, int second) {
        if (!state.has(first) || !state.has(second)) {
            return NO_SUCH;
        }
        return state.titles.get(first).commonRun(state.titles.get(second));
    }

    public int closest(int title) {
        if (!state.has(title)) {
            return NO_SUCH;
        }
        Title one = state.titles.get(title);
        int found = NONE;
        int longest = -1;
        for (int i = 0; i < state.titles.size(); i++) {
            int run = i == title ? -1 : one.commonRun(state.titles.get(i));
            if (run > longest) {
                longest = run;
                found = i;
            }
        }
        return found;
    }

    public int unknown() {
        int without = 0;
        for (int i = 0; i < state.titles.size(); i++) {
            study.look(state, i);
            if (!study.hasKey()) {
                without++;
            }
        }
        return without;
    }

    public int hardest() {
        int found = NONE;
        int longest = 0;
        for (int i = 0; i < state.titles.size(); i++) {
            study.look(state, i);
            if (study.hasKey() && study.keyLength > longest) {
                longest = study.keyLength;
                found = i;
            }
        }
        return found;
    }

    public int ifAdded() {
        if (!text.isTitle()) {
            return BAD_TEXT;
        }
        Title title = text.passedTitle();
        int refused = state.refusal(title);
        if (refused < 0) {
            return refused;
        }
        trial.copyFrom(state);
        trial.titles.add(title);
        int changed = 0;
        for (int i = 0; i < state.titles.size(); i++) {
            if (keyWouldChange(i)) {
                changed++;
            }
        }
        return changed;
    }

    private boolean keyWouldChange(int title) {
        study.look(state, title);
        int start = study.keyStart;
        int length = study.keyLength;
        study.look(trial, title);
        return study.keyStart != start || study.keyLength != length;
    }

    // ---- modes and orders

    public int setMode(int mode) {
        if (mode < MODE_PART || mode > MODE_INITIALS) {
            return BAD_VALUE;
        }
        int before = state.mode;
        history.save(state);
        state.mode = mode;
        return before;
    }

    public int setOrder(int order) {
        if (order < ORDER_PLACE || order > ORDER_NAME) {
            return BAD_VALUE;
        }
        int before = state.order;
        history.save(state);
        state.order = order;
        return before;
    }

    public int mode() {
        return state.mode;
    }

    public int order() {
        return state.order;
    }

    // ---- query and results

    public int ask(int code) {
        if (code != ' ' && !Text.isLetter(code)) {
            return BAD_VALUE;
        }
        if (code == ' ' && !state.queryEndsWithLetter()) {
            return NOT_POSSIBLE;
        }
        if (state.queryLength >= MOST_LETTERS) {
            return LIMIT;
        }
        history.save(state);
        state.appendToQuery((char) code);
        return results();
    }

    public int erase() {
        if (state.queryLength <= 0) {
            return NOT_POSSIBLE;
        }
        history.save(state);
        state.queryLength--;
        return results();
    }

    public int queryLength() {
        return state.queryLength;
    }

    public int queryCharacter(int place) {
        if (place < 0 || place >= state.queryLength || place >= state.query.length) {
            return NO_SUCH;
        }
        return state.query[place];
    }

    public int results() {
        ranking.rank(state);
        return ranking.count;
    }

    public int result(int rank) {
        ranking.rank(state);
        return ranking.has(rank) ? ranking.titleAt(rank) : NO_SUCH;
    }

    public int matchPlace(int rank) {
        ranking.rank(state);
        return ranking.has(rank) ? ranking.placeAt(rank) : NO_SUCH;
    }

    public int pick(int rank) {
        ranking.rank(state);
        if (!ranking.has(rank)) {
            return NO_SUCH;
        }
        history.save(state);
        return pickIfThere(rank);
    }

    private int pickIfThere(int rank) {
        ranking.rank(state);
        if (!ranking.has(rank)) {
            return NO_SUCH;
        }
        int title = ranking.titleAt(rank);
        if (!state.has(title)) {
            return NO_SUCH;
        }
        state.titles.set(title, state.titles.get(title).usedOnceMore());
        state.queryLength = 0;
        return title;
    }

    // ---- undo

    public int undo() {
        if (history.count <= 0) {
            return NOT_POSSIBLE;
        }
        history.restore(state);
        return history.count;
    }

    public long digest() {
        long hash = hashWith(FIRST_HASH, titles());
        for (int i = 0; i < state.titles.size(); i++) {
            hash = hashWithTitle(hash, i, state.titles.get(i));
        }
        hash = hashWith(hash, unknown());
        hash = hashWith(hash, hardest());
        hash = hashWith(hash, mode());
        hash = hashWith(hash, order());
        hash = hashWith(hash, queryLength());
        for (int i = 0; i < state.queryLength; i++) {
            hash = hashWith(hash, queryCharacter(i));
        }
        return hashWithResults(hash);
    }

    private long hashWithTitle(long before, int number, Title title) {
        long hash = before;
        study.look(state, number);
        for (int what = 0; what <= LAST_NUMBER; what++) {
            hash = hashWith(hash, studiedNumber(title, what));
        }
        for (int i = 0; i < title.letters.length; i++) {
            hash = hashWith(hash, title.letters[i]);
        }
        return hash;
    }

    private long hashWithResults(long before) {
        long hash = hashWith(before, results());
        for (int rank = 0; rank < ranking.count; rank++) {
            hash = hashWith(hash, ranking.titleAt(rank));
            hash = hashWith(hash, ranking.placeAt(rank));
        }
        return hash;
    }

    private static long hashWith(long hash, int value) {
        return 31 * hash + value;
    }

    /** A title and its uses; it never changes, so that saved states can share it. */
    private static final class Title {
        final char[] letters;
        final char[] initials;
        final int uses;

        private Title(char[] letters, char[] initials, int uses) {
            this.letters = letters;
            this.initials = initials;
            this.uses = uses;
        }

        static Title unused(char[] letters) {
            return new Title(letters, initialsOf(letters), 0);
        }

        private static char[] initialsOf(char[] letters) {
            char[] initials = new char[wordCount(letters)];
            int next = 0;
            for (int i = 0; i < letters.length && next < initials.length; i++) {
                if (i == 0 || letters[i - 1] == ' ') {
                    initials[next] = letters[i];
                    next++;
                }
            }
            return initials;
        }

        private static int wordCount(char[] letters) {
            int words = 1;
            for (int i = 0; i < letters.length; i++) {
                if (letters[i] == ' ') {
                    words++;
                }
            }
            return words;
        }

        Title usedOnceMore() {
            return new Title(letters, initials, uses + 1);
        }

        /** The characters that pieces are cut from. */
        char[] run(int mode) {
            return mode == MODE_INITIALS ? initials : letters;
        }

        boolean startsPiece(int mode, int place) {
            if (mode == MODE_INITIALS) {
                return place >= 0 && place < initials.length;
            }
            if (place < 0 || place >= letters.length) {
                return false;
            }
            switch (mode) {
                case MODE_START:
                    return place == 0;
                case MODE_WORD:
                    return place == 0 || letters[place - 1] == ' ';
                default:
                    return letters[place] != ' ';
            }
        }

        /** The lowest start of a piece with the first characters of the query, or NONE. */
        int placeOf(char[] query, int length, int mode) {
            char[] run = run(mode);
            for (int place = 0; place + length <= run.length; place++) {
                if (startsPiece(mode, place) && sameLength(query, 0, run, place, length) == length) {
                    return place;
                }
            }
            return NONE;
        }

        int commonRun(Title other) {
            int longest = 0;
            for (int i = 0; i < letters.length; i++) {
                for (int j = 0; j < other.letters.length; j++) {
                    longest = Math.max(longest, sameLength(letters, i, other.letters, j, MOST_LETTERS));
                }
            }
            return longest;
        }

        boolean hasLettersOf(Title other) {
            return letters.length == other.letters.length
                    && sameLength(letters, 0, other.letters, 0, letters.length) == letters.length;
        }

        boolean comesByNameBefore(Title other) {
            for (int i = 0; i < letters.length && i < other.letters.length; i++) {
                if (letters[i] != other.letters[i]) {
                    return letters[i] < other.letters[i];
                }
            }
            return letters.length < other.letters.length;
        }

        /** How many characters behind two starts, both 0 or more, are the same, counted up to most. */
        static int sameLength(char[] one, int oneStart, char[] other, int otherStart, int most) {
            int same = 0;
            while (same < most
                    && oneStart + same < one.length
                    && otherStart + same < other.length
                    && one[oneStart + same] == other[otherStart + same]) {
                same++;
            }
            return same;
        }
    }

    /** All that undo restores. */
    private static final class State {
        final ArrayList<Title> titles = new ArrayList<Title>();
        final char[] query = new char[MOST_LETTERS];
        int queryLength;
        int mode;
        int order;

        void copyFrom(State other) {
            titles.clear();
            for (int i = 0; i < other.titles.size(); i++) {
                titles.add(other.titles.get(i));
            }
            for (int i = 0; i < query.length && i < other.query.length; i++) {
                query[i] = other.query[i];
            }
            queryLength = other.queryLength;
            mode = other.mode;
            order = other.order;
        }

        boolean has(int title) {
            return title >= 0 && title < titles.size();
        }

        /** The error code with which a title is refused, or 0. */
        int refusal(Title title) {
            for (int i = 0; i < titles.size(); i++) {
                if (titles.get(i).hasLettersOf(title)) {
                    return NOT_POSSIBLE;
                }
            }
            return titles.size() >= MOST_TITLES ? LIMIT : 0;
        }

        void appendToQuery(char sign) {
            if (queryLength >= 0 && queryLength < query.length) {
                query[queryLength] = sign;
                queryLength++;
            }
        }

        boolean queryEndsWithLetter() {
            return queryLength > 0 && queryLength <= query.length && query[queryLength - 1] != ' ';
        }

        /** The place of the match of a title that there is, or NONE. */
        int placeOfMatch(int title) {
            // A blank at the end of the query does not count.
            int counted = queryEndsWithLetter() ? queryLength : queryLength - 1;
            return counted <= 0 ? 0 : titles.get(title).placeOf(query, counted, mode);
        }

        /** Whether a result stands ahead of another one; both are numbers of titles. */
        boolean comesBefore(int one, int onePlace, int other, int otherPlace) {
            Title first = titles.get(one);
            Title second = titles.get(other);
            if (order == ORDER_NAME) {
                return first.comesByNameBefore(second);
            }
            if (order == ORDER_OFTEN && first.uses != second.uses) {
                return first.uses > second.uses;
            }
            if (onePlace != otherPlace) {
                return onePlace < otherPlace;
            }
            if (first.letters.length != second.letters.length) {
                return first.letters.length < second.letters.length;
            }
            return one < other;
        }
    }

    /** The saved states, in a ring, so that a seventh one takes the row of the oldest one. */
    private static final class History {
        private final State[] rows;
        private int newest;
        int count;

        History() {
            rows = new State[MOST_SAVED];
            for (int i = 0; i < rows.length; i++) {
                rows[i] = new State();
            }
        }

        void save(State state) {
            newest = newest + 1 < rows.length ? newest + 1 : 0;
            rows[newest].copyFrom(state);
            count = Math.min(count + 1, rows.length);
        }

        /** At least one state is saved. */
        void restore(State state) {
            state.copyFrom(rows[newest]);
            newest = newest > 0 ? newest - 1 : rows.length - 1;
            count--;
        }
    }

    /** The text, and a place in it up to which it is read as a title or as a plan. */
    private static final class Text {
        static final int ADD = 0;
        static final int DROP = 1;
        static final int MODE = 2;
        static final int ORDER = 3;
        static final int ASK = 4;
        static final int PICK = 5;
        static final int CLEAR = 6;
        private static final int FIRST_MODE = 7;
        private static final int LAST_MODE = 10;
        private static final int FIRST_ORDER = 11;
        private static final int LAST_ORDER = 13;

        private final char[] signs = new char[MOST_TEXT];
        int length;
        private int at;
        /** The command that was passed last, and its number, mode or order. */
        int command;
        int value;
        /** Where the title or query that was passed last begins, and where it has ended. */
        private int from;
        private int to;

        boolean append(char sign) {
            if (length < 0 || length >= signs.length) {
                return false;
            }
            signs[length] = sign;
            length++;
            return true;
        }

        void makeEmpty() {
            length = 0;
        }

        void rewind() {
            at = 0;
        }

        /** Where the first character stands with which no plan goes on, or NONE if there is a plan. */
        int findFault() {
            rewind();
            for (int commands = 0; commands <= MOST_TEXT; commands++) {
                if (!passCommand()) {
                    return at;
                }
                if (at >= length) {
                    return NONE;
                }
                if (!passSemicolon()) {
                    return at;
                }
            }
            return at;
        }

        boolean isTitle() {
            rewind();
            return passTitle() && at >= length;
        }

        /** Each pass method stops at the first character with which it can't go on. */
        boolean passCommand() {
            command = passOneOf(ADD, CLEAR);
            switch (command) {
                case ADD:
                case ASK:
                    return passTitle();
                case DROP:
                case PICK:
                    return passNumber();
                case MODE:
                    return passName(FIRST_MODE, LAST_MODE);
                case ORDER:
                    return passName(FIRST_ORDER, LAST_ORDER);
                case CLEAR:
                    return true;
                default:
                    return false;
            }
        }

        boolean passSemicolon() {
            if (!hasSign() || signs[at] != ';') {
                return false;
            }
            at++;
            return true;
        }

        /** A title, or a query that can stand in a plan: both have the same form. */
        private boolean passTitle() {
            from = at;
            boolean needsLetter = true;
            for (int count = 1; count <= MOST_LETTERS && hasSign(); count++) {
                boolean blank = signs[at] == ' ';
                if (blank && (needsLetter || count == MOST_LETTERS)) {
                    break;
                }
                if (!blank && !isLetter(signs[at])) {
                    break;
                }
                needsLetter = blank;
                at++;
            }
            to = at;
            return !needsLetter;
        }

        private boolean passNumber() {
            int start = at;
            value = 0;
            while (at < start + 2 && hasSign() && isDigit(signs[at])) {
                value = 10 * value + (signs[at] - '0');
                at++;
            }
            return at > start;
        }

        private boolean passName(int first, int last) {
            int word = passOneOf(first, last);
            value = word - first;
            return word != NONE;
        }

        /** Passes as much as there is of one of the words; tells which one, or NONE if none is whole. */
        private int passOneOf(int first, int last) {
            int most = 0;
            for (int number = first; number <= last; number++) {
                String word = word(number);
                int same = sameLength(word);
                if (same == word.length()) {
                    at += same;
                    return number;
                }
                most = Math.max(most, same);
            }
            at += most;
            return NONE;
        }

        private int sameLength(String word) {
            int same = 0;
            while (same < word.length()
                    && at + same < length
                    && at + same < signs.length
                    && signs[at + same] == word.charAt(same)) {
                same++;
            }
            return same;
        }

        private boolean hasSign() {
            return at >= 0 && at < length && at < signs.length;
        }

        private static String word(int number) {
            switch (number) {
                case ADD:
                    return "add ";
                case DROP:
                    return "drop ";
                case MODE:
                    return "mode ";
                case ORDER:
                    return "order ";
                case ASK:
                    return "ask ";
                case PICK:
                    return "pick ";
                case CLEAR:
                    return "clear";
                default:
                    return name(number);
            }
        }

        /** The names of the modes and of the orders, each in the order of their numbers. */
        private static String name(int number) {
            switch (number) {
                case FIRST_MODE:
                    return "part";
                case FIRST_MODE + 1:
                    return "start";
                case FIRST_MODE + 2:
                    return "word";
                case LAST_MODE:
                    return "initials";
                case FIRST_ORDER:
                    return "place";
                case FIRST_ORDER + 1:
                    return "often";
                default:
                    return "name";
            }
        }

        static boolean isLetter(int code) {
            return code >= 'a' && code <= 'z' || isDigit(code);
        }

        private static boolean isDigit(int code) {
            return code >= '0' && code <= '9';
        }

        Title passedTitle() {
            char[] letters = new char[Math.max(0, to - from)];
            for (int i = 0; i < letters.length && from + i < signs.length; i++) {
                letters[i] = signs[from + i];
            }
            return Title.unused(letters);
        }

        /** Makes what was passed last the query. */
        void copyPassed(State state) {
            state.queryLength = 0;
            for (int i = from; i < to && i < signs.length; i++) {
                state.appendToQuery(signs[i]);
            }
        }
    }

    /** The results of a state, in their order. */
    private static final class Ranking {
        private final int[] ranked = new int[MOST_TITLES];
        private final int[] places = new int[MOST_TITLES];
        int count;

        void rank(State state) {
            count = 0;
            for (int title = 0; title < state.titles.size(); title++) {
                int place = state.placeOfMatch(title);
                if (place >= 0 && count < ranked.length) {
                    insert(state, title, place);
                }
            }
        }

        /** There is room for one result more. */
        private void insert(State state, int title, int place) {
            int rank = count;
            while (rank > 0 && state.comesBefore(title, place, ranked[rank - 1], places[rank - 1])) {
                ranked[rank] = ranked[rank - 1];
                places[rank] = places[rank - 1];
                rank--;
            }
            ranked[rank] = title;
            places[rank] = place;
            count++;
        }

        boolean has(int rank) {
            return rank >= 0 && rank < count && rank < ranked.length;
        }

        int titleAt(int rank) {
            return has(rank) ? ranked[rank] : NO_SUCH;
        }

        int placeAt(int rank) {
            return has(rank) ? places[rank] : NO_SUCH;
        }
    }

    /** Finds the key and the best shortcut of one title. */
    private static final class Study {
        /** For each title and length: the lowest start of the studied piece in the title, or NONE. */
        private final int[][] places = new int[MOST_TITLES][MOST_LETTERS + 1];
        int keyStart;
        int keyLength;
        int shortcutStart;
        int shortcutLength;

        /** Lengths of 0 stand for none. */
        void look(State state, int title) {
            keyStart = 0;
            keyLength = 0;
            shortcutStart = 0;
            shortcutLength = 0;
            if (!state.has(title)) {
                return;
            }
            Title studied = state.titles.get(title);
            char[] run = studied.run(state.mode);
            for (int start = 0; start < run.length; start++) {
                if (studied.startsPiece(state.mode, start)) {
                    lookAtPiecesFrom(start, run, state, title);
                }
            }
        }

        boolean hasKey() {
            return keyLength > 0;
        }

        boolean hasShortcut() {
            return shortcutLength > 0;
        }

        private void lookAtPiecesFrom(int start, char[] run, State state, int title) {
            int most = Math.min(run.length - start, longestWanted());
            for (int i = 0; i < state.titles.size() && i < places.length; i++) {
                findPlaces(places[i], most, run, start, state.titles.get(i), state.mode);
            }
            for (int length = 1; length <= most; length++) {
                if (run[start + length - 1] == ' ') {
                    continue;
                }
                if ((!hasKey() || length < keyLength) && isKnownBy(length, state, title)) {
                    keyStart = start;
                    keyLength = length;
                }
                if ((!hasShortcut() || length < shortcutLength) && isFirstFor(length, state, title)) {
                    shortcutStart = start;
                    shortcutLength = length;
                }
            }
        }

        /** A piece that is as long as what is found already is of no use: it starts further behind. */
        private int longestWanted() {
            if (!hasKey() || !hasShortcut()) {
                return MOST_LETTERS;
            }
            return Math.max(keyLength, shortcutLength) - 1;
        }

        /** Fills a row of places for the pieces from a start that are up to most long. */
        private static void findPlaces(int[] row, int most, char[] run, int start, Title title, int mode) {
            char[] other = title.run(mode);
            int found = 0;
            for (int place = 0; place < other.length && found < most; place++) {
                if (other[place] == run[start] && title.startsPiece(mode, place)) {
                    int same = Title.sameLength(run, start, other, place, most);
                    while (found < same && found + 1 < row.length) {
                        found++;
                        row[found] = place;
                    }
                }
            }
            for (int length = found + 1; length <= most && length < row.length; length++) {
                row[length] = NONE;
            }
        }

        private boolean isKnownBy(int length, State state, int title) {
            for (int i = 0; i < state.titles.size(); i++) {
                if (i != title && placeOf(i, length) >= 0) {
                    return false;
                }
            }
            return true;
        }

        private boolean isFirstFor(int length, State state, int title) {
            int own = placeOf(title, length);
            for (int i = 0; i < state.titles.size(); i++) {
                int place = placeOf(i, length);
                if (i != title && place >= 0 && state.comesBefore(i, place, title, own)) {
                    return false;
                }
            }
            return true;
        }

        private int placeOf(int title, int length) {
            if (title < 0 || title >= places.length || length < 0 || length > MOST_LETTERS) {
                return NONE;
            }
            return places[title][length];
        }
    }
}
