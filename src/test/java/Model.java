import java.util.ArrayList;
import java.util.Arrays;
import java.util.List;
import java.util.NoSuchElementException;

/**
 * The document once more, in its own words and without any thrift: whole copies of the world, every
 * question answered by doing it on a copy. ModelTest sets HushWatch against it.
 */
final class Model {
    private static final int NONE = -1;
    private static final int HIDDEN = -100000000;
    private static final List<String> LAWS = List.of("sum", "square", "most", "taxi");
    private static final List<String> STEPS = List.of("move", "add", "bound", "law", "sync", "goal", "freeze");
    private static final int[] NUMBERS = {3, 2, 1, 0, 0, 1, 1};

    static final class Site implements Cloneable {
        long x, y, heardX, heardY, slackX, slackY;
        int count, rest;
        boolean frozen;

        long driftX() {
            return x - heardX + slackX;
        }

        long driftY() {
            return y - heardY + slackY;
        }

        Site copy() {
            try {
                return (Site) clone();
            } catch (CloneNotSupportedException e) {
                throw new IllegalStateException(e);
            }
        }
    }

    static final class World {
        List<Site> sites = new ArrayList<>();
        List<int[]> log = new ArrayList<>();
        int law = 0, bound = 1000, goal = 100, known, signals, round;
        int messages, spoke, balanced, heard, crossed;
        boolean above;
        List<Integer> asked = new ArrayList<>();
        int outcome;

        World copy() {
            World w = new World();
            for (Site s : sites) {
                w.sites.add(s.copy());
            }
            w.log = new ArrayList<>(log);
            w.law = law;
            w.bound = bound;
            w.goal = goal;
            w.known = known;
            w.signals = signals;
            w.round = round;
            w.messages = messages;
            w.spoke = spoke;
            w.balanced = balanced;
            w.heard = heard;
            w.crossed = crossed;
            w.above = above;
            return w;
        }

        int n() {
            return sites.size();
        }

        long sumX() {
            return sites.stream().mapToLong(s -> s.heardX).sum();
        }

        long sumY() {
            return sites.stream().mapToLong(s -> s.heardY).sum();
        }

        long trueX() {
            return sites.stream().mapToLong(s -> s.x).sum();
        }

        long trueY() {
            return sites.stream().mapToLong(s -> s.y).sum();
        }

        int counts() {
            return sites.stream().mapToInt(s -> s.count).sum();
        }

        long value(long x, long y) {
            switch (LAWS.get(law)) {
                case "square": return x * x + y * y;
                case "most": return Math.max(Math.abs(x), Math.abs(y));
                case "taxi": return Math.abs(x) + Math.abs(y);
                default: return x + y;
            }
        }

        long pointX(Site s) {
            return sumX() + n() * s.driftX();
        }

        long pointY(Site s) {
            return sumY() + n() * s.driftY();
        }

        boolean quiet(Site s) {
            if (above) {
                return s.driftX() == 0 && s.driftY() == 0;
            }
            return value(pointX(s), pointY(s)) < bound;
        }

        boolean has(int site) {
            return site >= 0 && site < n();
        }

        /** -1, or the status of the refusal. */
        int refusesMove(int site, int x, int y) {
            if (!has(site)) {
                return 0;
            }
            Site s = sites.get(site);
            if (Math.abs((long) x) > 9999 || Math.abs((long) y) > 9999
                    || Math.abs(s.x + x) > 99999 || Math.abs(s.y + y) > 99999) {
                return 1;
            }
            return x == 0 && y == 0 || s.frozen ? 2 : -1;
        }

        /** The world behind it if these shared their drifts and were all quiet so, or null. */
        World shared(List<Integer> group) {
            List<Integer> members = new ArrayList<>(group);
            members.sort(null);
            long x = 0;
            long y = 0;
            for (int m : members) {
                x += sites.get(m).driftX();
                y += sites.get(m).driftY();
            }
            int size = members.size();
            World w = copy();
            for (int i = 0; i < size; i++) {
                Site s = w.sites.get(members.get(i));
                long shareX = Math.floorDiv(x, (long) size) + (i < Math.floorMod(x, (long) size) ? 1 : 0);
                long shareY = Math.floorDiv(y, (long) size) + (i < Math.floorMod(y, (long) size) ? 1 : 0);
                s.slackX += shareX - s.driftX();
                s.slackY += shareY - s.driftY();
                if (!w.quiet(s)) {
                    return null;
                }
            }
            return w;
        }

        void hear() {
            for (Site s : sites) {
                s.heardX = s.x;
                s.heardY = s.y;
                s.slackX = 0;
                s.slackY = 0;
            }
            heard++;
            boolean now = value(sumX(), sumY()) >= bound;
            if (now != above) {
                crossed++;
            }
            above = now;
        }

        int move(int site, int x, int y) {
            asked = new ArrayList<>();
            outcome = 0;
            Site s = sites.get(site);
            s.x += x;
            s.y += y;
            if (quiet(s)) {
                return 0;
            }
            spoke++;
            int said = 1;
            if (!above) {
                List<Integer> group = new ArrayList<>(List.of(site));
                for (int p = (site + 1) % n(); p != site; p = (p + 1) % n()) {
                    if (sites.get(p).frozen) {
                        continue;
                    }
                    asked.add(p);
                    group.add(p);
                    said += 2;
                    World w = shared(group);
                    if (w != null) {
                        sites = w.sites;
                        balanced++;
                        outcome = 1;
                        return said + group.size();
                    }
                }
            }
            for (int i = 0; i < n(); i++) {
                if (i != site && !asked.contains(i)) {
                    said++;
                }
            }
            hear();
            outcome = 2;
            return said + n();
        }

        int step() {
            return known >= goal ? 0 : (goal - known) / (2 * n());
        }

        int add(int site, int k) {
            Site s = sites.get(site);
            s.count += k;
            if (step() == 0) {
                known += k;
                return 1;
            }
            s.rest += k;
            int said = 0;
            while (step() > 0 && s.rest >= step()) {
                s.rest -= step();
                signals++;
                said++;
                if (signals == n()) {
                    said += 2 * n();
                    known = counts();
                    for (Site other : sites) {
                        other.rest = 0;
                    }
                    signals = 0;
                    round++;
                }
            }
            return said;
        }

        /** -1, or the status of the refusal, of an act told as a step. */
        int refuses(int kind, int a, int b, int c) {
            switch (STEPS.get(kind)) {
                case "move":
                    return refusesMove(a, b, c);
                case "add":
                    if (!has(a)) {
                        return 0;
                    }
                    return b < 1 || b > 999 || sites.get(a).count + b > 99999 ? 1 : known >= goal ? 2 : -1;
                case "bound":
                    return n() == 0 ? 0 : Math.abs((long) a) > 9999999 ? 1 : a == bound ? 2 : -1;
                case "law":
                    return n() == 0 ? 0 : a < 0 || a > 3 ? 1 : a == law ? 2 : -1;
                case "sync":
                    return n() == 0 ? 0 : -1;
                case "goal":
                    return n() == 0 ? 0 : a < 1 || a > 9999 ? 1 : -1;
                default:
                    if (!has(a)) {
                        return 0;
                    }
                    long awake = sites.stream().filter(s -> !s.frozen).count();
                    return !sites.get(a).frozen && awake == 1 ? 2 : -1;
            }
        }

        int does(int kind, int a, int b, int c) {
            int said = 0;
            int sort = 0;
            int number = a;
            switch (STEPS.get(kind)) {
                case "move":
                    said = move(a, b, c);
                    break;
                case "add":
                    sort = 4;
                    said = add(a, b);
                    break;
                case "bound":
                    sort = 2;
                    bound = a;
                    hear();
                    said = 2 * n();
                    break;
                case "law":
                    sort = 3;
                    law = a;
                    hear();
                    said = 2 * n();
                    break;
                case "sync":
                    sort = 1;
                    number = NONE;
                    hear();
                    said = 2 * n();
                    break;
                case "goal":
                    sort = 5;
                    goal = a;
                    known = 0;
                    round = 0;
                    signals = 0;
                    for (Site s : sites) {
                        s.count = 0;
                        s.rest = 0;
                    }
                    break;
                default:
                    sort = 6;
                    sites.get(a).frozen = !sites.get(a).frozen;
                    break;
            }
            messages += said;
            log.add(new int[] {sort, number, said});
            if (log.size() > 60) {
                log.remove(0);
            }
            return said;
        }
    }

    /** A text cut into parts: a word, a number, or one sign; and where each begins. */
    static final class Parts {
        final List<String> parts = new ArrayList<>();
        final List<Integer> begins = new ArrayList<>();
        int next = 0;
        int fault = NONE;
        final int length;

        Parts(String text) {
            length = text.length();
            int at = 0;
            while (at < length) {
                int from = at;
                char c = text.charAt(at++);
                if (c == ' ') {
                    continue;
                }
                if (c >= 'a' && c <= 'z') {
                    while (at < length && text.charAt(at) >= 'a' && text.charAt(at) <= 'z') {
                        at++;
                    }
                } else if (c == '-' || c >= '0' && c <= '9') {
                    while (at < length && text.charAt(at) >= '0' && text.charAt(at) <= '9') {
                        at++;
                    }
                }
                parts.add(text.substring(from, at));
                begins.add(from);
            }
        }

        boolean ended() {
            return next >= parts.size();
        }

        boolean failed() {
            return fault != NONE;
        }

        void fail() {
            if (!failed()) {
                fault = ended() ? length : begins.get(next);
            }
        }

        /** The part that comes, if it is one of these; else it can't be. */
        int oneOf(List<String> these) {
            int found = failed() || ended() ? NONE : these.indexOf(parts.get(next));
            if (found == NONE) {
                fail();
            } else {
                next++;
            }
            return found;
        }

        int number(int least, int most) {
            if (!failed() && !ended() && parts.get(next).matches("-?[0-9]{1,7}")) {
                int number = Integer.parseInt(parts.get(next));
                if (number >= least && number <= most) {
                    next++;
                    return number;
                }
            }
            fail();
            return 0;
        }
    }

    private final StringBuilder tape = new StringBuilder();
    private final List<List<int[]>> scripts = new ArrayList<>();
    private World world = new World();
    private World image = null;
    private final List<World> past = new ArrayList<>();
    private final int[] refusals = new int[3];

    private World readWatch(int[] fault) {
        Parts p = new Parts(tape.toString());
        World w = new World();
        List<String> left = new ArrayList<>(List.of("site", "law", "bound", "goal"));
        do {
            int word = p.oneOf(left);
            if (p.failed()) {
                break;
            }
            switch (left.get(word)) {
                case "law":
                    w.law = p.oneOf(LAWS);
                    left.remove("law");
                    break;
                case "bound":
                    w.bound = p.number(-9999999, 9999999);
                    left.remove("bound");
                    break;
                case "goal":
                    w.goal = p.number(1, 9999);
                    left.remove("goal");
                    break;
                default:
                    Site s = new Site();
                    s.x = p.number(-999, 999);
                    p.oneOf(List.of(","));
                    s.y = p.number(-999, 999);
                    s.heardX = s.x;
                    s.heardY = s.y;
                    w.sites.add(s);
                    if (w.n() == 8) {
                        left.remove("site");
                    }
                    break;
            }
        } while (!p.failed() && !p.ended() && p.oneOf(List.of(";")) == 0);
        if (!p.failed() && w.n() < 2) {
            p.fault = p.length;
        }
        fault[0] = p.fault;
        if (!p.failed()) {
            w.above = w.value(w.sumX(), w.sumY()) >= w.bound;
        }
        return w;
    }

    private List<int[]> readScript(int[] fault) {
        Parts p = new Parts(tape.toString());
        List<int[]> steps = new ArrayList<>();
        do {
            int kind = p.oneOf(STEPS);
            if (p.failed()) {
                break;
            }
            int[] step = {kind, HIDDEN, HIDDEN, HIDDEN};
            if (STEPS.get(kind).equals("law")) {
                step[1] = p.oneOf(LAWS);
            }
            for (int i = 1; i <= NUMBERS[kind]; i++) {
                if (i > 1) {
                    p.oneOf(List.of(","));
                }
                step[i] = p.number(-9999999, 9999999);
            }
            steps.add(step);
        } while (!p.failed() && !p.ended() && p.oneOf(steps.size() < 12 ? List.of(";") : List.of()) == 0);
        fault[0] = p.fault;
        return steps;
    }

    private boolean none() {
        return world.n() == 0;
    }

    private int act(boolean byHand, int kind, int a, int b, int c) {
        int reason = world.refuses(kind, a, b, c);
        if (reason >= 0) {
            refusals[reason] += byHand ? 1 : 0;
            return NONE;
        }
        past.add(world.copy());
        if (past.size() > 40) {
            past.remove(0);
        }
        return world.does(kind, a, b, c);
    }

    int feed(int a, int b, int c, int d, int e) {
        StringBuilder more = new StringBuilder();
        for (int number : new int[] {a, b, c, d, e}) {
            for (int i = 3; i >= 0; i--) {
                char sign = (char) (number >> 8 * i & 255);
                if (sign != 0) {
                    more.append(sign);
                }
            }
        }
        if (tape.length() + more.length() > 320) {
            return NONE;
        }
        return tape.append(more).length();
    }

    boolean end(int n) {
        if (n < 0 || n > tape.length()) {
            return false;
        }
        tape.setLength(n);
        return true;
    }

    int fault(int sort) {
        int[] fault = {-2};
        if (sort == 0) {
            readWatch(fault);
        } else if (sort == 1) {
            readScript(fault);
        }
        return fault[0];
    }

    int text(int sort) {
        if (fault(sort) != NONE || sort == 1 && scripts.size() == 4) {
            return NONE;
        }
        if (sort == 1) {
            scripts.add(readScript(new int[1]));
            tape.setLength(0);
            return scripts.size() - 1;
        }
        world = readWatch(new int[1]);
        past.clear();
        image = null;
        tape.setLength(0);
        return world.n();
    }

    int rule(int what) {
        if (none() || what < 0 || what > 3) {
            return HIDDEN;
        }
        return new int[] {world.law, world.bound, world.goal, world.n()}[what];
    }

    int site(int site, int what) {
        if (!world.has(site) || what < 0 || what > 13) {
            throw new NoSuchElementException();
        }
        Site s = world.sites.get(site);
        return (int) new long[] {s.x, s.y, s.heardX, s.heardY, s.slackX, s.slackY, s.driftX(), s.driftY(),
            world.pointX(s), world.pointY(s), world.quiet(s) ? 1 : 0, s.count, s.rest, s.frozen ? 1 : 0}[what];
    }

    long value(int x, int y) {
        boolean inside = Math.abs((long) x) <= 1000000 && Math.abs((long) y) <= 1000000;
        return none() || !inside ? HIDDEN : world.value(x, y);
    }

    boolean tells(int x, int y) {
        boolean inside = Math.abs((long) x) <= 1000000 && Math.abs((long) y) <= 1000000;
        return !none() && inside && world.value(x, y) < world.bound;
    }

    long all(int what) {
        if (none() || what < 0 || what > 5) {
            return HIDDEN;
        }
        return new long[] {world.sumX(), world.sumY(), world.trueX(), world.trueY(),
            world.value(world.sumX(), world.sumY()), world.value(world.trueX(), world.trueY())}[what];
    }

    int move(int site, int x, int y) {
        return act(true, 0, site, x, y);
    }

    int freeze(int site) {
        if (act(true, 6, site, 0, 0) == NONE) {
            return NONE;
        }
        return world.sites.get(site).frozen ? 1 : 0;
    }

    int sync() {
        return act(true, 4, 0, 0, 0);
    }

    int bound(int bound) {
        int was = world.bound;
        return act(true, 2, bound, 0, 0) == NONE ? HIDDEN : was;
    }

    int law(int law) {
        int was = world.law;
        return act(true, 3, law, 0, 0) == NONE ? NONE : was;
    }

    int add(int site, int k) {
        return act(true, 1, site, k, 0);
    }

    int goal(int goal) {
        int was = world.goal;
        return act(true, 5, goal, 0, 0) == NONE ? NONE : was;
    }

    int count(int what) {
        if (none() || what < 0 || what > 5) {
            return NONE;
        }
        return new int[] {world.known, world.step(), world.signals, world.round,
            world.known >= world.goal ? 1 : 0, world.counts()}[what];
    }

    int years(int n, long seed) {
        if (none() || n < 1 || n > 40) {
            return NONE;
        }
        long[] x = {seed};
        int said = 0;
        for (int i = 0; i < n; i++) {
            int what = draw(x, 8);
            int answer;
            if (what < 6) {
                int site = draw(x, world.n());
                int moveX = draw(x, 21) - 10;
                int moveY = draw(x, 21) - 10;
                answer = act(false, 0, site, moveX, moveY);
            } else if (what == 6) {
                int site = draw(x, world.n());
                answer = act(false, 1, site, draw(x, 9) + 1, 0);
            } else {
                answer = act(false, 4, 0, 0, 0);
            }
            said += answer == NONE ? 0 : answer;
        }
        return said;
    }

    private static int draw(long[] x, int of) {
        x[0] = x[0] * 6364136223846793005L + 1442695040888963407L;
        return (int) ((x[0] >>> 33) % of);
    }

    int status(int what) {
        return what < 0 || what > 2 ? NONE : refusals[what];
    }

    int undo() {
        if (past.isEmpty()) {
            return NONE;
        }
        world = past.remove(past.size() - 1);
        return past.size();
    }

    int log(int i, int what) {
        if (i < 0 || i >= world.log.size() || what < 0 || what > 2) {
            return HIDDEN;
        }
        return world.log.get(world.log.size() - 1 - i)[what];
    }

    int limit(int site, int x, int y) {
        if (!world.has(site) || Math.abs((long) x) > 9999 || Math.abs((long) y) > 9999 || x == 0 && y == 0
                || world.sites.get(site).frozen) {
            return NONE;
        }
        World w = world.copy();
        int times = 0;
        while (times < 200 && w.refusesMove(site, x, y) < 0) {
            w.move(site, x, y);
            if (w.outcome != 0) {
                break;
            }
            times++;
        }
        return times;
    }

    int would(int site, int x, int y, int what) {
        if (world.refusesMove(site, x, y) >= 0 || what < 0 || what > 2) {
            return NONE;
        }
        World w = world.copy();
        int said = w.move(site, x, y);
        return new int[] {said, w.asked.size(), w.outcome}[what];
    }

    int asked(int site, int x, int y, int i) {
        if (world.refusesMove(site, x, y) >= 0) {
            return NONE;
        }
        World w = world.copy();
        w.move(site, x, y);
        return i < 0 || i >= w.asked.size() ? NONE : w.asked.get(i);
    }

    int walk(int site, int x, int y, int n, int what) {
        if (world.refusesMove(site, x, y) >= 0 || n < 1 || n > 99 || what < 0 || what > 2) {
            return NONE;
        }
        World w = world.copy();
        int[] answers = new int[3];
        while (answers[2] < n && w.refusesMove(site, x, y) < 0) {
            answers[0] += w.move(site, x, y);
            answers[1] += w.outcome == 0 ? 0 : 1;
            answers[2]++;
        }
        return answers[what];
    }

    int partner(int site, int x, int y) {
        if (world.refusesMove(site, x, y) >= 0 || world.above) {
            return NONE;
        }
        World w = world.copy();
        w.sites.get(site).x += x;
        w.sites.get(site).y += y;
        if (w.quiet(w.sites.get(site))) {
            return NONE;
        }
        for (int i = 0; i < w.n(); i++) {
            if (i != site && !w.sites.get(i).frozen && w.shared(Arrays.asList(site, i)) != null) {
                return i;
            }
        }
        return NONE;
    }

    int race(int x, int y, int what) {
        if (none() || Math.abs((long) x) > 9999 || Math.abs((long) y) > 9999 || x == 0 && y == 0
                || what < 0 || what > 1) {
            return NONE;
        }
        World w = world.copy();
        int moves = 0;
        for (int turn = 0; turn < 200; turn++) {
            for (int site = 0; site < w.n(); site++) {
                if (w.sites.get(site).frozen) {
                    continue;
                }
                if (w.refusesMove(site, x, y) >= 0) {
                    return NONE;
                }
                w.move(site, x, y);
                moves++;
                if (w.outcome != 0) {
                    return what == 0 ? site : moves;
                }
            }
        }
        return NONE;
    }

    long needs(int site, int x, int y) {
        if (world.refusesMove(site, x, y) >= 0) {
            return HIDDEN;
        }
        World w = world.copy();
        Site s = w.sites.get(site);
        s.x += x;
        s.y += y;
        return w.value(w.pointX(s), w.pointY(s)) + 1;
    }

    int span(int site, int axis, boolean most) {
        if (!world.has(site) || axis < 0 || axis > 1 || !world.quiet(world.sites.get(site))) {
            return HIDDEN;
        }
        World w = world.copy();
        Site s = w.sites.get(site);
        int k = 0;
        while (Math.abs(k) < 200) {
            s.x += axis == 1 ? 0 : most ? 1 : -1;
            s.y += axis == 0 ? 0 : most ? 1 : -1;
            if (!w.quiet(s)) {
                break;
            }
            k += most ? 1 : -1;
        }
        return k;
    }

    int goes(int site, int what) {
        if (!world.has(site) || what < 0 || what > 1 || world.known >= world.goal) {
            return NONE;
        }
        World w = world.copy();
        int[] answers = new int[2];
        while (w.known < w.goal) {
            answers[0]++;
            answers[1] += w.add(site, 1);
        }
        return answers[what];
    }

    int fair(int what) {
        if (none() || what < 0 || what > 1) {
            return NONE;
        }
        int best = NONE;
        long most = Long.MIN_VALUE;
        for (int i = 0; i < world.n(); i++) {
            Site s = world.sites.get(i);
            long has = what == 0 ? world.value(world.pointX(s), world.pointY(s))
                    : Math.abs(s.slackX) + Math.abs(s.slackY);
            if (has > most) {
                most = has;
                best = i;
            }
        }
        return best;
    }

    int spell(int site, int i) {
        if (!world.has(site)) {
            return NONE;
        }
        Site s = world.sites.get(site);
        String words = "site " + site + " at " + s.x + "," + s.y + (world.quiet(s) ? "" : "!");
        return i == NONE ? words.length() : i < 0 || i >= words.length() ? NONE : words.charAt(i);
    }

    int step(int script, int i, int what) {
        if (script < 0 || script >= scripts.size() || i < 0 || i >= scripts.get(script).size()
                || what < 0 || what > 3) {
            return HIDDEN;
        }
        return scripts.get(script).get(i)[what];
    }

    int run(int script, int what) {
        if (script < 0 || script >= scripts.size() || none() || what < 0 || what > 1) {
            return HIDDEN;
        }
        World w = world.copy();
        int done = 0;
        int said = 0;
        for (int[] s : scripts.get(script)) {
            if (w.refuses(s[0], s[1], s[2], s[3]) >= 0) {
                return what == 0 ? done : said;
            }
            said += w.does(s[0], s[1], s[2], s[3]);
            done++;
        }
        return what == 0 ? NONE : said;
    }

    int perform(int script) {
        if (script < 0 || script >= scripts.size() || none()) {
            return NONE;
        }
        int done = 0;
        for (int[] s : scripts.get(script)) {
            if (act(false, s[0], s[1], s[2], s[3]) == NONE) {
                break;
            }
            done++;
        }
        return done;
    }

    int most(int what) {
        if (none() || what < 0 || what > 11) {
            return HIDDEN;
        }
        int[] bits = new int[4];
        long slackX = 0;
        long slackY = 0;
        for (int i = 0; i < world.n(); i++) {
            Site s = world.sites.get(i);
            bits[0] |= world.quiet(s) ? 1 << i : 0;
            bits[1] |= s.slackX != 0 || s.slackY != 0 ? 1 << i : 0;
            bits[2] |= s.x == s.heardX && s.y == s.heardY ? 1 << i : 0;
            bits[3] |= s.frozen ? 1 << i : 0;
            slackX += s.slackX;
            slackY += s.slackY;
        }
        return new int[] {world.messages, world.spoke, world.balanced, world.heard, world.crossed,
            world.above ? 1 : 0, bits[0], bits[1], (int) slackX, (int) slackY, bits[2], bits[3]}[what];
    }

    int image() {
        if (none()) {
            return NONE;
        }
        image = world.copy();
        return world.messages;
    }

    int back() {
        if (image == null) {
            return NONE;
        }
        world = image.copy();
        past.clear();
        return world.messages;
    }

    int held(int what) {
        if (what < 0 || what > 4) {
            return HIDDEN;
        }
        return new int[] {world.n(), scripts.size(), tape.length(), world.log.size(), past.size()}[what];
    }
}
