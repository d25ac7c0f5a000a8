import java.util.NoSuchElementException;

/**
 * A watch over sites that stay silent as long as what each of them sees lets no bound be crossed
 * by all together. The document's words in capitals (SITE, DRIFT, POINT, ..) are used as it means them.
 */
public final class HushWatch {
    public static final int NONE = -1;
    public static final int HIDDEN = -100000000;

    private static final int LEAST_SITES = 2;
    private static final int MOST_SITES = 8;
    private static final int MOST_MOVED = 9999;
    private static final int MOST_PLACE = 99999;
    private static final int MOST_TOLD_PLACE = 999;
    private static final int MOST_BOUND = 9999999;
    private static final int MOST_GOAL = 9999;
    private static final int MOST_ADDED = 999;
    private static final int MOST_COUNT = 99999;
    private static final int MOST_ASKED_VALUE = 1000000;
    private static final int MOST_TRIES = 200;
    private static final int MOST_WALK = 99;
    private static final int MOST_YEARS = 40;
    private static final int MOST_UNDONE = 40;
    private static final int MOST_LOGGED = 60;
    private static final int MOST_SCRIPTS = 4;
    private static final int MOST_STEPS = 12;

    // The sorts of acts, with the numbers that the log tells.
    private static final int MOVED = 0;
    private static final int HEARD = 1;
    private static final int BOUND_SET = 2;
    private static final int LAW_SET = 3;
    private static final int ADDED = 4;
    private static final int GOAL_SET = 5;
    private static final int FREEZING = 6;

    // Why an act is refused, with the numbers that the status tells.
    private static final int FREE = -1;
    private static final int MISSING = 0;
    private static final int OUTSIDE = 1;
    private static final int SO_ALREADY = 2;

    // What comes of a move, with the numbers that would(..) tells.
    private static final int NOTHING = 0;
    private static final int BALANCED = 1;
    private static final int ALL_HEARD = 2;

    // The laws, with the numbers that rule(0) tells.
    private static final int LAW_SUM = 0;
    private static final int LAW_SQUARE = 1;
    private static final int LAW_MOST = 2;
    private static final int LAW_TAXI = 3;

    // The kinds of steps, with the numbers that step(..) tells.
    private static final int STEP_MOVE = 0;
    private static final int STEP_ADD = 1;
    private static final int STEP_BOUND = 2;
    private static final int STEP_LAW = 3;
    private static final int STEP_SYNC = 4;
    private static final int STEP_GOAL = 5;
    private static final int STEP_FREEZE = 6;
    private static final int STEP_WIDTH = 4;
    private static final int[] NUMBERS_OF_STEP = {3, 2, 1, 1, 0, 1, 1};
    private static final int[] SORT_OF_STEP =
            {MOVED, ADDED, BOUND_SET, LAW_SET, HEARD, GOAL_SET, FREEZING};

    private final Tape tape = new Tape();
    private final Reader reader = new Reader(tape);
    private final Scripts scripts = new Scripts();
    private final State now = new State();
    private final State trial = new State();
    private final State kept = new State();
    private final Book book = new Book();
    private final Book keptBook = new Book();
    private final History history = new History();
    private final Draws draws = new Draws();
    private final int[] refused = new int[3];
    private boolean hasImage;

    public HushWatch() {
        hasImage = false;
    }

    public int feed(int a, int b, int c, int d, int e) {
        int more = Tape.bytesIn(a) + Tape.bytesIn(b) + Tape.bytesIn(c)
                + Tape.bytesIn(d) + Tape.bytesIn(e);
        if (tape.length + more > Tape.ROOM) {
            return NONE;
        }
        tape.take(a);
        tape.take(b);
        tape.take(c);
        tape.take(d);
        tape.take(e);
        return tape.length;
    }

    public boolean end(int n) {
        return tape.cutTo(n);
    }

    public int fault(int sort) {
        if (sort == 0) {
            return reader.readWatch();
        }
        return sort == 1 ? reader.readScript() : -2;
    }

    public int text(int sort) {
        if (sort == 0 && reader.readWatch() == NONE) {
            return beginWatch();
        }
        if (sort == 1 && !scripts.areFull() && reader.readScript() == NONE) {
            return keepScript();
        }
        return NONE;
    }

    public int rule(int what) {
        if (!now.stands()) {
            return HIDDEN;
        }
        switch (what) {
            case 0: return now.row[State.LAW];
            case 1: return now.row[State.BOUND];
            case 2: return now.row[State.GOAL];
            case 3: return now.sites();
            default: return HIDDEN;
        }
    }

    public int site(int site, int what) throws NoSuchElementException {
        if (!now.hasSite(site) || what < 0 || what > 13) {
            throw new NoSuchElementException("no such site, or nothing such to tell of it");
        }
        switch (what) {
            case 6:
            case 7: return now.drift(site, what - 6);
            case 8:
            case 9: return now.point(site, what - 8);
            case 10: return now.isQuiet(site) ? 1 : 0;
            case 11: return now.of(site, State.COUNT);
            case 12: return now.of(site, State.REST);
            case 13: return now.isFrozen(site) ? 1 : 0;
            default: return now.of(site, State.X + what);
        }
    }

    public long value(int x, int y) {
        return canBeAsked(x, y) ? now.valueOf(x, y) : HIDDEN;
    }

    public boolean tells(int x, int y) {
        return canBeAsked(x, y) && now.allows(x, y);
    }

    public long all(int what) {
        if (!now.stands()) {
            return HIDDEN;
        }
        switch (what) {
            case 0:
            case 1: return now.row[State.SUM_X + what];
            case 2:
            case 3: return now.total(State.X + what - 2);
            case 4: return now.valueOf(now.row[State.SUM_X], now.row[State.SUM_Y]);
            case 5: return now.valueOf(now.total(State.X), now.total(State.Y));
            default: return HIDDEN;
        }
    }

    public int move(int site, int x, int y) {
        return act(MOVED, site, x, y, true);
    }

    public int freeze(int site) {
        if (act(FREEZING, site, 0, 0, true) < 0) {
            return NONE;
        }
        return now.isFrozen(site) ? 1 : 0;
    }

    public int sync() {
        return act(HEARD, NONE, 0, 0, true);
    }

    public int bound(int bound) {
        int was = now.row[State.BOUND];
        return act(BOUND_SET, bound, 0, 0, true) < 0 ? HIDDEN : was;
    }

    public int law(int law) {
        int was = now.row[State.LAW];
        return act(LAW_SET, law, 0, 0, true) < 0 ? NONE : was;
    }

    public int add(int site, int k) {
        return act(ADDED, site, k, 0, true);
    }

    public int goal(int goal) {
        int was = now.row[State.GOAL];
        return act(GOAL_SET, goal, 0, 0, true) < 0 ? NONE : was;
    }

    public int count(int what) {
        if (!now.stands()) {
            return NONE;
        }
        switch (what) {
            case 0: return now.row[State.KNOWN];
            case 1: return now.stepFrom(now.row[State.KNOWN]);
            case 2: return now.row[State.SIGNALS];
            case 3: return now.row[State.ROUND];
            case 4: return now.isReached() ? 1 : 0;
            case 5: return now.total(State.COUNT);
            default: return NONE;
        }
    }

    public int years(int n, long seed) {
        if (!now.stands() || n < 1 || n > MOST_YEARS) {
            return NONE;
        }
        draws.x = seed;
        int messages = 0;
        for (int i = 0; i < n; i++) {
            draws.pickAct(now.sites());
            messages += Math.max(act(draws.sort, draws.a, draws.b, draws.c, false), 0);
        }
        return messages;
    }

    public int status(int what) {
        return what >= 0 && what < refused.length ? refused[what] : NONE;
    }

    public int undo() {
        return history.bringBack(now) ? history.held : NONE;
    }

    public int log(int i, int what) {
        if (i < 0 || i >= loggedActs() || what < 0 || what >= Book.WIDTH) {
            return HIDDEN;
        }
        return book.read(now.row[State.ACTS] - 1 - i, what);
    }

    public int limit(int site, int x, int y) {
        if (!now.hasSite(site) || !isWay(x, y) || now.isFrozen(site)) {
            return NONE;
        }
        int times = 0;
        for (int i = 1; i <= MOST_TRIES; i++) {
            if (!now.hasRoom(site, i * x, i * y) || !now.isQuietWith(site, i * x, i * y)) {
                break;
            }
            times = i;
        }
        return times;
    }

    public int would(int site, int x, int y, int what) {
        if (now.refusal(MOVED, site, x, y) != FREE) {
            return NONE;
        }
        int messages = tryMove(site, x, y);
        switch (what) {
            case 0: return messages;
            case 1: return trial.askedCount;
            case 2: return trial.outcome;
            default: return NONE;
        }
    }

    public int asked(int site, int x, int y, int i) {
        if (now.refusal(MOVED, site, x, y) != FREE) {
            return NONE;
        }
        tryMove(site, x, y);
        return i >= 0 && i < trial.askedCount && i < MOST_SITES ? trial.partners[i] : NONE;
    }

    public int walk(int site, int x, int y, int n, int what) {
        if (n < 1 || n > MOST_WALK || now.refusal(MOVED, site, x, y) != FREE) {
            return NONE;
        }
        trial.copyFrom(now);
        int moves = 0;
        for (int i = 0; i < n && trial.refusal(MOVED, site, x, y) == FREE; i++) {
            trial.doAct(MOVED, site, x, y);
            moves++;
        }
        switch (what) {
            case 0: return trial.row[State.MESSAGES] - now.row[State.MESSAGES];
            case 1: return trial.row[State.SPOKEN] - now.row[State.SPOKEN];
            case 2: return moves;
            default: return NONE;
        }
    }

    public int partner(int site, int x, int y) {
        if (now.refusal(MOVED, site, x, y) != FREE || now.isAbove() || now.isQuietWith(site, x, y)) {
            return NONE;
        }
        trial.copyFrom(now);
        trial.shift(site, x, y);
        for (int other = 0; other < trial.sites(); other++) {
            if (other != site && !trial.isFrozen(other) && trial.canShare(1 << site | 1 << other)) {
                return other;
            }
        }
        return NONE;
    }

    public int race(int x, int y, int what) {
        if (!now.stands() || !isWay(x, y) || what < 0 || what > 1) {
            return NONE;
        }
        int moves = 0;
        for (int turn = 1; turn <= MOST_TRIES; turn++) {
            for (int site = 0; site < now.sites(); site++) {
                if (now.isFrozen(site)) {
                    continue;
                }
                if (!now.hasRoom(site, turn * x, turn * y)) {
                    return NONE;
                }
                moves++;
                if (!now.isQuietWith(site, turn * x, turn * y)) {
                    return what == 0 ? site : moves;
                }
            }
        }
        return NONE;
    }

    public long needs(int site, int x, int y) {
        if (now.refusal(MOVED, site, x, y) != FREE) {
            return HIDDEN;
        }
        return now.pointValue(site, x, y) + 1;
    }

    public int span(int site, int axis, boolean most) {
        if (!now.hasSite(site) || axis < 0 || axis > 1 || !now.isQuiet(site)) {
            return HIDDEN;
        }
        int way = most ? 1 : -1;
        int reached = 0;
        for (int i = 1; i <= MOST_TRIES; i++) {
            int k = way * i;
            if (!now.isQuietWith(site, axis == 0 ? k : 0, axis == 0 ? 0 : k)) {
                break;
            }
            reached = k;
        }
        return reached;
    }

    public int goes(int site, int what) {
        if (!now.hasSite(site) || what < 0 || what > 1 || now.isReached()) {
            return NONE;
        }
        return now.aloneToGoal(site, what == 1);
    }

    public int fair(int what) {
        if (!now.stands() || what < 0 || what > 1) {
            return NONE;
        }
        int best = 0;
        for (int site = 1; site < now.sites(); site++) {
            boolean more = what == 0
                    ? now.pointValue(site, 0, 0) > now.pointValue(best, 0, 0)
                    : now.slackLength(site) > now.slackLength(best);
            if (more) {
                best = site;
            }
        }
        return best;
    }

    public int spell(int site, int i) {
        if (!now.hasSite(site)) {
            return NONE;
        }
        StringBuilder words = new StringBuilder();
        words.append("site ");
        words.append(site);
        words.append(" at ");
        words.append(now.of(site, State.X));
        words.append(',');
        words.append(now.of(site, State.Y));
        if (!now.isQuiet(site)) {
            words.append('!');
        }
        if (i == NONE) {
            return words.length();
        }
        if (i < 0 || i >= words.length()) {
            return NONE;
        }
        return words.charAt(i);
    }

    public int step(int script, int i, int what) {
        return scripts.read(script, i, what);
    }

    public int run(int script, int what) {
        if (!scripts.has(script) || !now.stands() || what < 0 || what > 1) {
            return HIDDEN;
        }
        trial.copyFrom(now);
        int steps = scripts.stepsOf(script);
        int done = 0;
        while (done < steps && tryStep(script, done)) {
            done++;
        }
        if (what == 1) {
            return trial.row[State.MESSAGES] - now.row[State.MESSAGES];
        }
        return done < steps ? done : NONE;
    }

    public int perform(int script) {
        if (!scripts.has(script) || !now.stands()) {
            return NONE;
        }
        int steps = scripts.stepsOf(script);
        for (int i = 0; i < steps; i++) {
            int messages = act(scripts.sortOf(script, i), scripts.read(script, i, 1),
                    scripts.read(script, i, 2), scripts.read(script, i, 3), false);
            if (messages == NONE) {
                return i;
            }
        }
        return steps;
    }

    public int most(int what) {
        if (!now.stands()) {
            return HIDDEN;
        }
        switch (what) {
            case 0: return now.row[State.MESSAGES];
            case 1: return now.row[State.SPOKEN];
            case 2: return now.row[State.BALANCES];
            case 3: return now.row[State.HEARINGS];
            case 4: return now.row[State.CROSSED];
            case 5: return now.row[State.ABOVE];
            case 6: return now.quietSites();
            case 7: return now.slackSites();
            case 8: return now.total(State.SLACK_X);
            case 9: return now.total(State.SLACK_Y);
            case 10: return now.unmovedSites();
            case 11: return now.row[State.FROZEN];
            default: return HIDDEN;
        }
    }

    public int image() {
        if (!now.stands()) {
            return NONE;
        }
        kept.copyFrom(now);
        keptBook.copyFrom(book);
        hasImage = true;
        return now.row[State.MESSAGES];
    }

    public int back() {
        if (!hasImage) {
            return NONE;
        }
        now.copyFrom(kept);
        book.copyFrom(keptBook);
        history.forget();
        return now.row[State.MESSAGES];
    }

    public int held(int what) {
        switch (what) {
            case 0: return now.sites();
            case 1: return scripts.held;
            case 2: return tape.length;
            case 3: return loggedActs();
            case 4: return history.held;
            default: return HIDDEN;
        }
    }

    private int beginWatch() {
        now.begin(reader);
        history.forget();
        hasImage = false;
        tape.cutTo(0);
        return now.sites();
    }

    private int keepScript() {
        scripts.keep(reader);
        tape.cutTo(0);
        return scripts.held - 1;
    }

    private boolean canBeAsked(int x, int y) {
        return now.stands() && x >= -MOST_ASKED_VALUE && x <= MOST_ASKED_VALUE
                && y >= -MOST_ASKED_VALUE && y <= MOST_ASKED_VALUE;
    }

    private int loggedActs() {
        return Math.min(now.row[State.ACTS], MOST_LOGGED);
    }

    /** The messages of an act, or NONE if it is refused: only what is done by hand counts in the status. */
    private int act(int sort, int a, int b, int c, boolean byHand) {
        int reason = now.refusal(sort, a, b, c);
        if (reason != FREE) {
            if (byHand && reason >= 0 && reason < refused.length) {
                refused[reason]++;
            }
            return NONE;
        }
        history.keep(now);
        int messages = now.doAct(sort, a, b, c);
        book.write(now.row[State.ACTS], sort, sort == HEARD ? NONE : a, messages);
        now.row[State.ACTS]++;
        return messages;
    }

    private int tryMove(int site, int x, int y) {
        trial.copyFrom(now);
        return trial.doAct(MOVED, site, x, y);
    }

    private boolean tryStep(int script, int i) {
        int sort = scripts.sortOf(script, i);
        int a = scripts.read(script, i, 1);
        int b = scripts.read(script, i, 2);
        int c = scripts.read(script, i, 3);
        if (trial.refusal(sort, a, b, c) != FREE) {
            return false;
        }
        trial.doAct(sort, a, b, c);
        return true;
    }

    private static boolean isMovable(int x, int y) {
        return x >= -MOST_MOVED && x <= MOST_MOVED && y >= -MOST_MOVED && y <= MOST_MOVED;
    }

    private static boolean isWay(int x, int y) {
        return isMovable(x, y) && (x != 0 || y != 0);
    }

    /** The bytes that were fed and not yet made a text. */
    private static final class Tape {
        static final int ROOM = 320;

        private final byte[] bytes = new byte[ROOM];
        private int length = 0;

        static int bytesIn(int number) {
            int found = 0;
            for (int shift = 24; shift >= 0; shift -= 8) {
                if ((number >>> shift & 255) != 0) {
                    found++;
                }
            }
            return found;
        }

        void take(int number) {
            for (int shift = 24; shift >= 0; shift -= 8) {
                int sign = number >>> shift & 255;
                if (sign != 0 && length < ROOM) {
                    bytes[length] = (byte) sign;
                    length++;
                }
            }
        }

        boolean cutTo(int n) {
            if (n < 0 || n > length) {
                return false;
            }
            length = n;
            return true;
        }

        /** Beyond the end there is no sign, so that readers need not look at the length. */
        int signAt(int i) {
            return i >= 0 && i < length && i < ROOM ? bytes[i] & 255 : NONE;
        }
    }

    /** Reads the tape part by part, and keeps what it read till it reads anew. */
    private static final class Reader {
        private static final int MOST_DIGITS = 7;

        private final Tape tape;
        private final int[] rules = new int[3];
        private final int[] places = new int[2 * MOST_SITES];
        private final int[] steps = new int[MOST_STEPS * STEP_WIDTH];
        private int siteCount = 0;
        private int stepCount = 0;
        private int seenRules = 0;
        private int at = 0;
        private int wordStart = 0;
        private int number = 0;
        private int failed = NONE;

        Reader(Tape tape) {
            this.tape = tape;
        }

        int readWatch() {
            start();
            for (int clause = 0; clause < Tape.ROOM; clause++) {
                if (!readClause()) {
                    return failed;
                }
                if (isAtEnd()) {
                    return siteCount < LEAST_SITES ? tape.length : NONE;
                }
                if (!readSign(';')) {
                    return failed;
                }
            }
            return at;
        }

        int readScript() {
            start();
            for (int i = 0; i < MOST_STEPS; i++) {
                if (!readStep()) {
                    return failed;
                }
                stepCount++;
                if (isAtEnd()) {
                    return NONE;
                }
                // A ; behind the last step that there may be can't be either.
                if (stepCount == MOST_STEPS || !readSign(';')) {
                    return at;
                }
            }
            return at;
        }

        private void start() {
            rules[State.LAW] = LAW_SUM;
            rules[State.BOUND] = 1000;
            rules[State.GOAL] = 100;
            siteCount = 0;
            stepCount = 0;
            seenRules = 0;
            at = 0;
            failed = NONE;
        }

        private boolean readClause() {
            if (!readWord()) {
                return false;
            }
            if (isWord("site")) {
                return readSite();
            }
            int rule = ruleOfWord();
            if (rule < 0 || rule >= rules.length || (seenRules >> rule & 1) != 0) {
                return failAt(wordStart);
            }
            seenRules |= 1 << rule;
            boolean good = rule == State.LAW ? readLaw()
                    : rule == State.BOUND ? readNumber(-MOST_BOUND, MOST_BOUND)
                    : readNumber(1, MOST_GOAL);
            if (good) {
                rules[rule] = number;
            }
            return good;
        }

        private int ruleOfWord() {
            if (isWord("law")) {
                return State.LAW;
            }
            if (isWord("bound")) {
                return State.BOUND;
            }
            return isWord("goal") ? State.GOAL : NONE;
        }

        private boolean readSite() {
            if (siteCount >= MOST_SITES) {
                return failAt(wordStart);
            }
            for (int axis = 0; axis < 2; axis++) {
                if (axis == 1 && !readSign(',')) {
                    return false;
                }
                if (!readNumber(-MOST_TOLD_PLACE, MOST_TOLD_PLACE)) {
                    return false;
                }
                places[2 * siteCount + axis] = number;
            }
            siteCount++;
            return true;
        }

        private boolean readStep() {
            if (!readWord()) {
                return false;
            }
            int kind = stepOfWord();
            if (kind < 0 || kind >= NUMBERS_OF_STEP.length) {
                return failAt(wordStart);
            }
            startStep(kind);
            for (int i = 1; i <= NUMBERS_OF_STEP[kind]; i++) {
                if (i > 1 && !readSign(',')) {
                    return false;
                }
                if (!(kind == STEP_LAW ? readLaw() : readNumber(-MOST_BOUND, MOST_BOUND))) {
                    return false;
                }
                putInStep(i, number);
            }
            return true;
        }

        private void startStep(int kind) {
            putInStep(0, kind);
            for (int i = 1; i < STEP_WIDTH; i++) {
                putInStep(i, HIDDEN);
            }
        }

        private void putInStep(int i, int what) {
            if (stepCount < MOST_STEPS && i >= 0 && i < STEP_WIDTH) {
                steps[stepCount * STEP_WIDTH + i] = what;
            }
        }

        private int stepOfWord() {
            if (isWord("move")) {
                return STEP_MOVE;
            }
            if (isWord("add")) {
                return STEP_ADD;
            }
            if (isWord("bound")) {
                return STEP_BOUND;
            }
            if (isWord("law")) {
                return STEP_LAW;
            }
            if (isWord("sync")) {
                return STEP_SYNC;
            }
            if (isWord("goal")) {
                return STEP_GOAL;
            }
            return isWord("freeze") ? STEP_FREEZE : NONE;
        }

        private boolean readLaw() {
            if (!readWord()) {
                return false;
            }
            number = lawOfWord();
            return number != NONE || failAt(wordStart);
        }

        private int lawOfWord() {
            if (isWord("sum")) {
                return LAW_SUM;
            }
            if (isWord("square")) {
                return LAW_SQUARE;
            }
            if (isWord("most")) {
                return LAW_MOST;
            }
            return isWord("taxi") ? LAW_TAXI : NONE;
        }

        private boolean readWord() {
            skipBlanks();
            wordStart = at;
            while (at < tape.length && isLetter(tape.signAt(at))) {
                at++;
            }
            return at > wordStart || failAt(at);
        }

        private boolean isWord(String word) {
            if (at - wordStart != word.length()) {
                return false;
            }
            for (int i = 0; i < word.length(); i++) {
                if (tape.signAt(wordStart + i) != word.charAt(i)) {
                    return false;
                }
            }
            return true;
        }

        private boolean readNumber(int least, int most) {
            skipBlanks();
            int begin = at;
            boolean below = tape.signAt(at) == '-';
            if (below) {
                at++;
            }
            int firstDigit = at;
            int size = 0;
            while (at < tape.length && isDigit(tape.signAt(at))) {
                // More digits than may be are passed over without a value that would go round.
                if (at - firstDigit < MOST_DIGITS) {
                    size = size * 10 + tape.signAt(at) - '0';
                }
                at++;
            }
            int digits = at - firstDigit;
            number = below ? -size : size;
            if (digits < 1 || digits > MOST_DIGITS || number < least || number > most) {
                return failAt(begin);
            }
            return true;
        }

        private boolean readSign(char sign) {
            skipBlanks();
            if (tape.signAt(at) != sign) {
                return failAt(at);
            }
            at++;
            return true;
        }

        private boolean isAtEnd() {
            skipBlanks();
            return at >= tape.length;
        }

        private void skipBlanks() {
            while (at < tape.length && tape.signAt(at) == ' ') {
                at++;
            }
        }

        private boolean failAt(int where) {
            failed = where;
            return false;
        }

        private static boolean isLetter(int sign) {
            return sign >= 'a' && sign <= 'z';
        }

        private static boolean isDigit(int sign) {
            return sign >= '0' && sign <= '9';
        }
    }

    /** The scripts: of each step its kind and its numbers, HIDDEN where it has fewer. */
    private static final class Scripts {
        private static final int LENGTH = MOST_STEPS * STEP_WIDTH;

        private final int[] steps = new int[MOST_SCRIPTS * LENGTH];
        private final int[] counts = new int[MOST_SCRIPTS];
        private int held = 0;

        boolean areFull() {
            return held >= MOST_SCRIPTS;
        }

        void keep(Reader reader) {
            if (!areFull()) {
                System.arraycopy(reader.steps, 0, steps, held * LENGTH, LENGTH);
                counts[held] = reader.stepCount;
                held++;
            }
        }

        boolean has(int script) {
            return script >= 0 && script < held && script < MOST_SCRIPTS;
        }

        int stepsOf(int script) {
            return has(script) ? counts[script] : 0;
        }

        int read(int script, int i, int what) {
            if (i < 0 || i >= stepsOf(script) || what < 0 || what >= STEP_WIDTH) {
                return HIDDEN;
            }
            return steps[script * LENGTH + i * STEP_WIDTH + what];
        }

        int sortOf(int script, int i) {
            int kind = read(script, i, 0);
            return kind >= 0 && kind < SORT_OF_STEP.length ? SORT_OF_STEP[kind] : NONE;
        }
    }

    /** All that acts change but the log's words, in one row, so that it is kept and brought back whole. */
    private static final class State {
        static final int LAW = 0;
        static final int BOUND = 1;
        static final int GOAL = 2;
        static final int SITES = 3;
        static final int SUM_X = 4;
        static final int SUM_Y = 5;
        static final int ABOVE = 6;
        static final int FROZEN = 7;
        static final int KNOWN = 8;
        static final int SIGNALS = 9;
        static final int ROUND = 10;
        static final int MESSAGES = 11;
        static final int SPOKEN = 12;
        static final int BALANCES = 13;
        static final int HEARINGS = 14;
        static final int CROSSED = 15;
        static final int ACTS = 16;
        static final int SITE_PART = 17;

        // The columns of a site; y stands behind x, and the first six as site(..) tells them.
        static final int X = 0;
        static final int Y = 1;
        static final int HEARD_X = 2;
        static final int HEARD_Y = 3;
        static final int SLACK_X = 4;
        static final int SLACK_Y = 5;
        static final int COUNT = 6;
        static final int REST = 7;
        static final int WIDTH = 8;

        static final int LENGTH = SITE_PART + MOST_SITES * WIDTH;

        private final int[] row = new int[LENGTH];

        // What the latest move came to; nothing of this is kept.
        private final int[] partners = new int[MOST_SITES];
        private int askedCount = 0;
        private int outcome = NOTHING;

        // The shares of the group measured last: what each has at least, and how many have 1 more.
        private final int[] share = new int[2];
        private final int[] leftOver = new int[2];

        void begin(Reader reader) {
            for (int i = 0; i < LENGTH; i++) {
                row[i] = 0;
            }
            row[LAW] = reader.rules[LAW];
            row[BOUND] = reader.rules[BOUND];
            row[GOAL] = reader.rules[GOAL];
            row[SITES] = Math.min(reader.siteCount, MOST_SITES);
            for (int site = 0; site < sites(); site++) {
                put(site, X, reader.places[2 * site]);
                put(site, Y, reader.places[2 * site + 1]);
            }
            hearPlaces();
            row[ABOVE] = allows(row[SUM_X], row[SUM_Y]) ? 0 : 1;
        }

        void copyFrom(State other) {
            System.arraycopy(other.row, 0, row, 0, LENGTH);
        }

        boolean stands() {
            return row[SITES] > 0;
        }

        int sites() {
            return row[SITES];
        }

        boolean hasSite(int site) {
            return site >= 0 && site < row[SITES] && site < MOST_SITES;
        }

        int of(int site, int column) {
            if (site < 0 || site >= MOST_SITES || column < 0 || column >= WIDTH) {
                return 0;
            }
            return row[SITE_PART + site * WIDTH + column];
        }

        private void put(int site, int column, int what) {
            if (site >= 0 && site < MOST_SITES && column >= 0 && column < WIDTH) {
                row[SITE_PART + site * WIDTH + column] = what;
            }
        }

        int total(int column) {
            int total = 0;
            for (int site = 0; site < sites(); site++) {
                total += of(site, column);
            }
            return total;
        }

        int drift(int site, int axis) {
            if (site < 0 || site >= MOST_SITES || axis < 0 || axis > 1) {
                return 0;
            }
            int at = SITE_PART + site * WIDTH + axis;
            return row[at + X] - row[at + HEARD_X] + row[at + SLACK_X];
        }

        int point(int site, int axis) {
            return (axis == 0 ? row[SUM_X] : row[SUM_Y]) + row[SITES] * drift(site, axis);
        }

        long valueOf(long x, long y) {
            long sizeX = x < 0 ? -x : x;
            long sizeY = y < 0 ? -y : y;
            switch (row[LAW]) {
                case LAW_SQUARE: return x * x + y * y;
                case LAW_MOST: return sizeX > sizeY ? sizeX : sizeY;
                case LAW_TAXI: return sizeX + sizeY;
                default: return x + y;
            }
        }

        boolean allows(long x, long y) {
            return valueOf(x, y) < row[BOUND];
        }

        boolean isAbove() {
            return row[ABOVE] != 0;
        }

        boolean isFrozen(int site) {
            return hasSite(site) && (row[FROZEN] >> site & 1) != 0;
        }

        private boolean isQuietDrift(int x, int y) {
            if (isAbove()) {
                return x == 0 && y == 0;
            }
            return valueOf(row[SUM_X] + row[SITES] * x, row[SUM_Y] + row[SITES] * y) < row[BOUND];
        }

        boolean isQuietWith(int site, int x, int y) {
            return isQuietDrift(drift(site, 0) + x, drift(site, 1) + y);
        }

        boolean isQuiet(int site) {
            return isQuietDrift(drift(site, 0), drift(site, 1));
        }

        long pointValue(int site, int x, int y) {
            return valueOf(point(site, 0) + row[SITES] * x, point(site, 1) + row[SITES] * y);
        }

        int slackLength(int site) {
            return Math.abs(of(site, SLACK_X)) + Math.abs(of(site, SLACK_Y));
        }

        boolean hasRoom(int site, int x, int y) {
            return Math.abs(of(site, X) + x) <= MOST_PLACE && Math.abs(of(site, Y) + y) <= MOST_PLACE;
        }

        int quietSites() {
            int bits = 0;
            for (int site = 0; site < sites(); site++) {
                bits |= isQuiet(site) ? 1 << site : 0;
            }
            return bits;
        }

        int slackSites() {
            int bits = 0;
            for (int site = 0; site < sites(); site++) {
                bits |= slackLength(site) != 0 ? 1 << site : 0;
            }
            return bits;
        }

        int unmovedSites() {
            int bits = 0;
            for (int site = 0; site < sites(); site++) {
                boolean same = of(site, X) == of(site, HEARD_X) && of(site, Y) == of(site, HEARD_Y);
                bits |= same ? 1 << site : 0;
            }
            return bits;
        }

        /** FREE, or the first reason by which the act can't be. */
        int refusal(int sort, int a, int b, int c) {
            if (!stands()) {
                return MISSING;
            }
            switch (sort) {
                case MOVED: return moveRefusal(a, b, c);
                case BOUND_SET: return setRefusal(a, -MOST_BOUND, MOST_BOUND, row[BOUND]);
                case LAW_SET: return setRefusal(a, LAW_SUM, LAW_TAXI, row[LAW]);
                case ADDED: return addRefusal(a, b);
                case GOAL_SET: return a < 1 || a > MOST_GOAL ? OUTSIDE : FREE;
                case FREEZING: return freezeRefusal(a);
                default: return FREE;
            }
        }

        private int moveRefusal(int site, int x, int y) {
            if (!hasSite(site)) {
                return MISSING;
            }
            if (!isMovable(x, y) || !hasRoom(site, x, y)) {
                return OUTSIDE;
            }
            return x == 0 && y == 0 || isFrozen(site) ? SO_ALREADY : FREE;
        }

        private static int setRefusal(int what, int least, int most, int is) {
            if (what < least || what > most) {
                return OUTSIDE;
            }
            return what == is ? SO_ALREADY : FREE;
        }

        private int addRefusal(int site, int k) {
            if (!hasSite(site)) {
                return MISSING;
            }
            if (k < 1 || k > MOST_ADDED || of(site, COUNT) + k > MOST_COUNT) {
                return OUTSIDE;
            }
            return isReached() ? SO_ALREADY : FREE;
        }

        private int freezeRefusal(int site) {
            if (!hasSite(site)) {
                return MISSING;
            }
            int everyone = (1 << row[SITES]) - 1;
            return (row[FROZEN] | 1 << site) == everyone && !isFrozen(site) ? SO_ALREADY : FREE;
        }

        /** An act that is not refused: how many messages it takes. */
        int doAct(int sort, int a, int b, int c) {
            int messages = 0;
            switch (sort) {
                case MOVED:
                    messages = moveSite(a, b, c);
                    break;
                case HEARD:
                    messages = hearByHand();
                    break;
                case BOUND_SET:
                    row[BOUND] = a;
                    messages = hearByHand();
                    break;
                case LAW_SET:
                    row[LAW] = a;
                    messages = hearByHand();
                    break;
                case ADDED:
                    messages = addTo(a, b);
                    break;
                case GOAL_SET:
                    startCounts(a);
                    break;
                case FREEZING:
                    row[FROZEN] ^= 1 << a;
                    break;
                default:
                    break;
            }
            row[MESSAGES] += messages;
            return messages;
        }

        void shift(int site, int x, int y) {
            put(site, X, of(site, X) + x);
            put(site, Y, of(site, Y) + y);
        }

        private int moveSite(int site, int x, int y) {
            askedCount = 0;
            outcome = NOTHING;
            shift(site, x, y);
            if (isQuiet(site)) {
                return 0;
            }
            row[SPOKEN]++;
            int group = 1 << site;
            for (int i = 1; i < row[SITES] && i < MOST_SITES && !isAbove(); i++) {
                int partner = site + i < row[SITES] ? site + i : site + i - row[SITES];
                if (isFrozen(partner)) {
                    continue;
                }
                noteAsked(partner);
                group |= 1 << partner;
                if (canShare(group)) {
                    return balance(group);
                }
            }
            hearAll();
            outcome = ALL_HEARD;
            int unasked = row[SITES] - 1 - askedCount;
            return 1 + 2 * askedCount + unasked + row[SITES];
        }

        private void noteAsked(int partner) {
            if (askedCount < MOST_SITES) {
                partners[askedCount] = partner;
                askedCount++;
            }
        }

        /** Whether all of a group (bits) would be quiet with what they have shared. */
        boolean canShare(int group) {
            measureShares(group);
            int rank = 0;
            for (int site = 0; site < sites(); site++) {
                if ((group >> site & 1) == 0) {
                    continue;
                }
                if (!isQuietDrift(shareOf(rank, 0), shareOf(rank, 1))) {
                    return false;
                }
                rank++;
            }
            return true;
        }

        private void measureShares(int group) {
            int members = Integer.bitCount(group);
            if (members == 0) {
                return;
            }
            for (int axis = 0; axis < 2; axis++) {
                int drifts = 0;
                for (int site = 0; site < sites(); site++) {
                    drifts += (group >> site & 1) != 0 ? drift(site, axis) : 0;
                }
                share[axis] = Math.floorDiv(drifts, members);
                leftOver[axis] = Math.floorMod(drifts, members);
            }
        }

        private int shareOf(int rank, int axis) {
            if (axis < 0 || axis > 1) {
                return 0;
            }
            return rank < leftOver[axis] ? share[axis] + 1 : share[axis];
        }

        /** Gives a group the shares that were measured last: all messages of that. */
        private int balance(int group) {
            row[BALANCES]++;
            outcome = BALANCED;
            int rank = 0;
            for (int site = 0; site < sites(); site++) {
                if ((group >> site & 1) == 0) {
                    continue;
                }
                for (int axis = 0; axis < 2; axis++) {
                    int more = shareOf(rank, axis) - drift(site, axis);
                    put(site, SLACK_X + axis, of(site, SLACK_X + axis) + more);
                }
                rank++;
            }
            return 1 + 2 * askedCount + rank;
        }

        private int hearByHand() {
            hearAll();
            return 2 * row[SITES];
        }

        private void hearAll() {
            hearPlaces();
            row[HEARINGS]++;
            int above = allows(row[SUM_X], row[SUM_Y]) ? 0 : 1;
            if (above != row[ABOVE]) {
                row[CROSSED]++;
            }
            row[ABOVE] = above;
        }

        private void hearPlaces() {
            row[SUM_X] = 0;
            row[SUM_Y] = 0;
            for (int site = 0; site < sites(); site++) {
                put(site, HEARD_X, of(site, X));
                put(site, HEARD_Y, of(site, Y));
                put(site, SLACK_X, 0);
                put(site, SLACK_Y, 0);
                row[SUM_X] += of(site, X);
                row[SUM_Y] += of(site, Y);
            }
        }

        boolean isReached() {
            return row[KNOWN] >= row[GOAL];
        }

        /** The STEP of a round that begins with so much known. */
        int stepFrom(int known) {
            int ways = 2 * row[SITES];
            return ways <= 0 || known >= row[GOAL] ? 0 : (row[GOAL] - known) / ways;
        }

        private int addTo(int site, int k) {
            put(site, COUNT, of(site, COUNT) + k);
            int step = stepFrom(row[KNOWN]);
            if (step == 0) {
                row[KNOWN] += k;
                return 1;
            }
            put(site, REST, of(site, REST) + k);
            int messages = 0;
            for (int i = 0; i < MOST_SITES && of(site, REST) >= step; i++) {
                put(site, REST, of(site, REST) - step);
                row[SIGNALS]++;
                messages++;
                if (row[SIGNALS] >= row[SITES]) {
                    // The end of a round empties every rest, so no signal can follow it.
                    endRound();
                    return messages + 2 * row[SITES];
                }
            }
            return messages;
        }

        private void endRound() {
            row[KNOWN] = total(COUNT);
            row[SIGNALS] = 0;
            row[ROUND]++;
            for (int site = 0; site < sites(); site++) {
                put(site, REST, 0);
            }
        }

        private void startCounts(int goal) {
            row[GOAL] = goal;
            row[KNOWN] = 0;
            row[SIGNALS] = 0;
            row[ROUND] = 0;
            for (int site = 0; site < sites(); site++) {
                put(site, COUNT, 0);
                put(site, REST, 0);
            }
        }

        /**
         * How often 1 must be added to this site alone till the goal is reached, or the messages of that;
         * a whole round at once, since nobody else signals meanwhile.
         */
        int aloneToGoal(int site, boolean messagesWanted) {
            int known = row[KNOWN];
            int total = total(COUNT);
            int rest = of(site, REST);
            int signals = row[SIGNALS];
            int times = 0;
            int messages = 0;
            int step = stepFrom(known);
            for (int i = 0; i < MOST_GOAL && step > 0; i++) {
                int missing = row[SITES] - signals;
                int added = missing * step - rest;
                times += added;
                total += added;
                messages += missing + 2 * row[SITES];
                known = total;
                rest = 0;
                signals = 0;
                step = stepFrom(known);
            }
            int atOnce = Math.max(row[GOAL] - known, 0);
            return (messagesWanted ? messages : times) + atOnce;
        }
    }

    /** What the log tells of each act, by the act's number; room for those that undoing brings back, too. */
    private static final class Book {
        static final int WIDTH = 3;
        private static final int ROOM = MOST_LOGGED + MOST_UNDONE;

        private final int[] lines = new int[ROOM * WIDTH];

        void write(int act, int sort, int number, int messages) {
            int line = Math.floorMod(act, ROOM) * WIDTH;
            lines[line] = sort;
            lines[line + 1] = number;
            lines[line + 2] = messages;
        }

        int read(int act, int what) {
            return what >= 0 && what < WIDTH ? lines[Math.floorMod(act, ROOM) * WIDTH + what] : HIDDEN;
        }

        void copyFrom(Book other) {
            System.arraycopy(other.lines, 0, lines, 0, ROOM * WIDTH);
        }
    }

    /** The rows ahead of the latest acts, for undoing. */
    private static final class History {
        private final int[] rows = new int[MOST_UNDONE * State.LENGTH];
        private int next = 0;
        private int held = 0;

        void keep(State state) {
            System.arraycopy(state.row, 0, rows, next * State.LENGTH, State.LENGTH);
            next = next + 1 < MOST_UNDONE ? next + 1 : 0;
            held = Math.min(held + 1, MOST_UNDONE);
        }

        boolean bringBack(State state) {
            if (held == 0) {
                return false;
            }
            next = next > 0 ? next - 1 : MOST_UNDONE - 1;
            held--;
            System.arraycopy(rows, next * State.LENGTH, state.row, 0, State.LENGTH);
            return true;
        }

        void forget() {
            held = 0;
        }
    }

    /** The draws of years, and the act that was drawn last. */
    private static final class Draws {
        private long x = 0;
        private int sort = HEARD;
        private int a = NONE;
        private int b = 0;
        private int c = 0;

        void pickAct(int sites) {
            int what = next(8);
            if (what == 7) {
                sort = HEARD;
                a = NONE;
                return;
            }
            a = next(sites);
            if (what == 6) {
                sort = ADDED;
                b = next(9) + 1;
                return;
            }
            sort = MOVED;
            b = next(21) - 10;
            c = next(21) - 10;
        }

        private int next(int of) {
            x = x * 6364136223846793005L + 1442695040888963407L;
            return of > 0 ? (int) ((x >>> 33) % of) : 0;
        }
    }
}
