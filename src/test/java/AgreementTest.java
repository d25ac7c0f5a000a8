import java.util.Random;

/**
 * The document's first lines. What they claim must hold behind every act, and what is asked apart must be what
 * comes when it is done: each question is put to one object, and done on a twin that was made likewise. The
 * seeds are fixed, and no object is used for more than 512 calls.
 */
public final class AgreementTest {
    private static final int NONE = HushWatch.NONE;
    private static final int STATES = 400;
    private static final String[] LAWS = {"sum", "square", "most", "taxi"};

    private final long seed;
    private final Random random;

    private AgreementTest(long seed) {
        this.seed = seed;
        this.random = new Random(seed * 31 + 7);
    }

    private int pick(int least, int most) {
        return least + random.nextInt(most - least + 1);
    }

    /** A watch in the middle of things, the same for the same seed: fewer than 40 acts. */
    private static HushWatch made(long seed) {
        Random random = new Random(seed);
        int law = random.nextInt(4);
        int bound = random.nextInt(10) == 0 ? random.nextInt(50) - 60
                : law == 1 ? 500 + random.nextInt(20000) : 20 + random.nextInt(300);
        StringBuilder text = new StringBuilder("law " + LAWS[law] + ";bound " + bound);
        text.append(";goal ").append(1 + random.nextInt(200));
        int sites = 2 + random.nextInt(7);
        for (int i = 0; i < sites; i++) {
            text.append(";site ").append(random.nextInt(9) - 4).append(',').append(random.nextInt(9) - 4);
        }
        HushWatch w = Check.watch(text.toString());
        w.years(1 + random.nextInt(20), random.nextLong());
        for (int i = random.nextInt(8); i > 0; i--) {
            w.move(random.nextInt(sites), random.nextInt(41) - 20, random.nextInt(41) - 20);
        }
        for (int i = random.nextInt(4); i > 0; i--) {
            w.freeze(random.nextInt(sites));
        }
        w.add(random.nextInt(sites), 1 + random.nextInt(9));
        return w;
    }

    private HushWatch twin() {
        return made(seed);
    }

    private int way() {
        int[] wides = {2, 6, 20, 60};
        int wide = wides[pick(0, 3)];
        return pick(-wide, wide);
    }

    private void noBoundIsCrossedUnheard() {
        HushWatch w = twin();
        int sites = w.rule(3);
        for (int i = 0; i < 40; i++) {
            int messages = w.most(0);
            int answer = i % 9 == 8 ? w.freeze(pick(0, sites - 1)) * 0 : w.move(pick(0, sites - 1), way(), way());
            Told.terms("A watch over sites that are silent as long as what each of them sees lets no bound be crossed by "
                    + "all together:");
            if (w.most(5) == 0) {
                Told.due("seed " + seed + ", the true sum is below the bound", w.all(5) < w.rule(1), true);
            }
            Told.due("seed " + seed + ", all are quiet", w.most(6), (1 << sites) - 1);
            Told.due("seed " + seed + ", messages", w.most(0) - messages, i % 9 == 8 ? 0 : Math.max(answer, 0));
            Told.terms("slacks that add up to nought;");
            Told.due("seed " + seed + ", x", w.most(8), 0);
            Told.due("seed " + seed + ", y", w.most(9), 0);
        }
    }

    private void lawsAreConvex() {
        Told.terms("a law of the sum of all places, convex, and a bound;");
        HushWatch w = twin();
        for (int i = 0; i < 10; i++) {
            int x = pick(-500000, 500000);
            int y = pick(-500000, 500000);
            int toX = pick(-400000, 400000);
            int toY = pick(-400000, 400000);
            long ends = w.value(x - toX, y - toY) + w.value(x + toX, y + toY);
            Told.due("seed " + seed + ", half the way", 2 * w.value(x, y) <= ends, true);
        }
        Told.due("of the sum", w.all(4), w.value((int) w.all(0), (int) w.all(1)));
        Told.due("and a bound", w.tells((int) w.all(0), (int) w.all(1)), w.most(5) == 0);
    }

    /** What a move would do, and what it does. */
    private void movesAsAsked() {
        HushWatch asked = twin();
        HushWatch done = twin();
        int site = pick(0, asked.rule(3) - 1);
        int x = way();
        int y = way();
        String name = "seed " + seed + ", move " + site + "," + x + "," + y;
        int outcome = asked.would(site, x, y, 2);
        int[] before = {done.most(1), done.most(2), done.most(3), done.site(site, 0), done.site(site, 1)};
        Told.terms("each has a place that moves;");
        int messages = done.move(site, x, y);
        boolean moved = messages != NONE;
        Told.due(name, done.site(site, 0), before[3] + (moved ? x : 0));
        Told.due(name, done.site(site, 1), before[4] + (moved ? y : 0));
        Told.terms("who leaves what is allowed speaks, asks one partner behind the other, shares what it moved with them, or "
                + "all are heard;");
        Told.due(name + " speaks", done.most(1) - before[0], outcome > 0 ? 1 : 0);
        Told.due(name + " is shared", done.most(2) - before[1], outcome == 1 ? 1 : 0);
        Told.due(name + ": all are heard", done.most(3) - before[2], outcome == 2 ? 1 : 0);
        Told.terms("what would be heard,");
        Told.due(name + ": messages", asked.would(site, x, y, 0), messages);
        int partners = asked.would(site, x, y, 1);
        int sites = asked.rule(3);
        int heard = outcome == 0 ? 0 : outcome == 1 ? 2 + 3 * partners : 2 * sites + partners;
        Told.due(name + ": messages by their rule", messages, moved ? heard : NONE);
        Told.due(name + ": if it is quiet, its need is met", outcome == 0 && asked.most(5) == 0,
                moved && asked.needs(site, x, y) <= asked.rule(1) && asked.most(5) == 0);
        partnersInOrder(asked, site, x, y);
    }

    private void partnersInOrder(HushWatch asked, int site, int x, int y) {
        Told.terms("whom a move would need,");
        int sites = asked.rule(3);
        int partners = asked.would(site, x, y, 1);
        int found = 0;
        for (int i = 1; i < sites && found < partners; i++) {
            int next = (site + i) % sites;
            if (asked.site(next, 13) == 0) {
                Told.due("seed " + seed + ", partner " + found, asked.asked(site, x, y, found), next);
                found++;
            }
        }
        Told.due("seed " + seed + ", no more", asked.asked(site, x, y, Math.max(partners, 0)), NONE);
        if (asked.would(site, x, y, 2) > 0 && asked.most(5) == 0) {
            int first = NONE;
            for (int other = sites - 1; other >= 0; other--) {
                first = other != site && asked.site(other, 13) == 0 && doesAlone(site, other, x, y) ? other : first;
            }
            Told.due("seed " + seed + ", the one that does alone", asked.partner(site, x, y), first);
        } else {
            Told.due("seed " + seed + ", nobody is needed", asked.partner(site, x, y), NONE);
        }
    }

    /** Whether a move is shared if all but one other site are frozen. */
    private boolean doesAlone(int site, int other, int x, int y) {
        HushWatch w = twin();
        for (int i = 0; i < w.rule(3); i++) {
            if (i != site && i != other && w.site(i, 13) == 0) {
                w.freeze(i);
            }
        }
        w.move(site, x, y);
        return w.log(0, 0) == 0 && w.log(0, 2) == 5;
    }

    private void farAsAsked() {
        Told.terms("how far one may go unheard,");
        HushWatch asked = twin();
        HushWatch done = twin();
        int site = pick(0, asked.rule(3) - 1);
        int x = way();
        int y = way();
        int limit = asked.limit(site, x, y);
        if (done.site(site, 13) == 1 || x == 0 && y == 0) {
            Told.due("seed " + seed + ", it can't be moved", limit, NONE);
            return;
        }
        int times = 0;
        while (times < 200 && done.move(site, x, y) == 0) {
            times++;
        }
        Told.due("seed " + seed + ", " + site + " by " + x + "," + y, limit, times);
        for (int axis = 0; axis < 2; axis++) {
            for (int sign = -1; sign <= 1; sign += 2) {
                int ones = asked.limit(site, axis == 0 ? sign : 0, axis == 0 ? 0 : sign);
                Told.due("seed " + seed + ", by ones", asked.span(site, axis, sign > 0), sign * ones);
            }
        }
    }

    private void walksAndRaces() {
        Told.terms("what would be heard,");
        HushWatch asked = twin();
        HushWatch done = twin();
        int sites = asked.rule(3);
        int site = pick(0, sites - 1);
        int x = way();
        int y = way();
        int n = pick(1, 99);
        int sent = done.most(0);
        int spoken = done.most(1);
        int moves = 0;
        while (moves < n && done.move(site, x, y) != NONE) {
            moves++;
        }
        int[] dues = {done.most(0) - sent, done.most(1) - spoken, moves};
        for (int what = 0; what < 3; what++) {
            Told.due("seed " + seed + ", walk " + what, asked.walk(site, x, y, n, what), moves == 0 ? NONE : dues[what]);
        }
        int behind = asked.race(x, y, 1);
        if (behind == NONE || behind > 200) {
            return;
        }
        HushWatch raced = twin();
        int last = NONE;
        int turns = 0;
        int answer = 0;
        for (int i = 0; i < 450 && answer <= 0; i++) {
            last = i % sites;
            answer = raced.move(last, x, y);
            turns += answer == NONE ? 0 : 1;
        }
        Told.due("seed " + seed + ", who speaks", asked.race(x, y, 0), last);
        Told.due("seed " + seed + ", behind how many moves", behind, turns);
    }

    private void scriptsAsAsked() {
        Told.terms("watches and scripts told as texts of words;");
        HushWatch asked = twin();
        HushWatch done = twin();
        HushWatch byHand = twin();
        int sites = asked.rule(3);
        StringBuilder text = new StringBuilder();
        int fit = 0;
        int sent = byHand.most(0);
        boolean stopped = false;
        int steps = pick(1, 12);
        for (int i = 0; i < steps; i++) {
            int site = pick(0, sites - (pick(0, 9) == 0 ? 0 : 1));
            int kind = pick(0, 7);
            int a = way();
            int b = way();
            text.append(i == 0 ? "" : ";").append(words(kind, site, a, b));
            stopped = stopped || !doneByHand(byHand, kind, site, a, b);
            fit += stopped ? 0 : 1;
        }
        Check.script(asked, text.toString());
        Check.script(done, text.toString());
        Told.terms("what words a script costs,");
        Told.due("seed " + seed + ", run(0, 0) of " + text, asked.run(0, 0), fit == steps ? NONE : fit);
        Told.due("seed " + seed + ", run(0, 1) of " + text, asked.run(0, 1), byHand.most(0) - sent);
        Told.due("seed " + seed + ", perform(0)", done.perform(0), fit);
        Told.due("seed " + seed + ", no status", done.status(1) + done.status(2), twin().status(1) + twin().status(2));
        // The object by hand has no script: one is told, too, so that all that is seen can be the same.
        Check.script(byHand, "sync");
        Told.same("seed " + seed + ", " + text, Told.seen(done), Told.seen(byHand));
    }

    private static String words(int kind, int site, int a, int b) {
        switch (kind) {
            case 0: return "add " + site + "," + a;
            case 1: return "bound " + a * 20;
            case 2: return "law " + LAWS[Math.floorMod(a, 4)];
            case 3: return "sync";
            case 4: return "goal " + a;
            case 5: return "freeze " + site;
            default: return "move " + site + "," + a + "," + b;
        }
    }

    private static boolean doneByHand(HushWatch w, int kind, int site, int a, int b) {
        switch (kind) {
            case 0: return w.add(site, a) != NONE;
            case 1: return w.bound(a * 20) != HushWatch.HIDDEN;
            case 2: return w.law(Math.floorMod(a, 4)) != NONE;
            case 3: return w.sync() != NONE;
            case 4: return w.goal(a) != NONE;
            case 5: return w.freeze(site) != NONE;
            default: return w.move(site, a, b) != NONE;
        }
    }

    private void countsTowardAGoal() {
        Told.terms("counts toward a goal in rounds of half the way, signal by signal;");
        HushWatch w = Check.watch("goal 800;site 0,0;site 0,0");
        int[] known = {400, 600, 700, 750, 774};
        for (int i = 0; i < known.length; i++) {
            int step = w.count(1);
            Told.due("a signal", w.add(i % 2, step), 1);
            Told.due("and the last one of a round", w.add(1 - i % 2, step), 5);
            Told.due("half the way", w.count(0), known[i]);
        }
        Told.terms("how many signals a goal takes,");
        HushWatch asked = twin();
        HushWatch done = twin();
        int site = pick(0, asked.rule(3) - 1);
        int sent = done.most(0);
        int times = 0;
        while (done.count(4) == 0 && times < 210) {
            done.add(site, 1);
            times++;
        }
        Told.due("seed " + seed + ", times", asked.goes(site, 0), times == 0 ? NONE : times);
        Told.due("seed " + seed + ", messages", asked.goes(site, 1), times == 0 ? NONE : done.most(0) - sent);
    }

    private void loggedUndoneAndKept() {
        Told.terms("ways by draws;");
        HushWatch drawn = twin();
        HushWatch again = twin();
        int messages = drawn.years(5, seed);
        Told.due("seed " + seed + ", the same draws, the same ways", again.years(5, seed), messages);
        Told.terms("a log, a status of what was refused, acts undone; images. ==== 1.");
        int acts = again.held(3) - twin().held(3);
        int told = 0;
        for (int i = 0; i < acts; i++) {
            told += again.log(i, 2);
        }
        Told.due("seed " + seed + ", the log's messages", told, messages);
        int refused = again.status(2);
        Told.due("seed " + seed + ", it is so", again.bound(again.rule(1)), HushWatch.HIDDEN);
        Told.due("seed " + seed + ", status", again.status(2), refused + 1);
        for (int i = 0; i < acts; i++) {
            again.undo();
        }
        Told.same("seed " + seed + ", undone", Told.seen(again), Told.seen(twin()));
        drawn.image();
        drawn.back();
        HushWatch kept = twin();
        kept.years(5, seed);
        kept.image();
        kept.years(40, seed + 1);
        Told.due("seed " + seed + ", back", kept.back(), drawn.most(0));
        Told.same("seed " + seed + ", back", Told.seen(kept), Told.seen(drawn));
    }

    private void askingChangesNothing() {
        HushWatch w = twin();
        int site = pick(0, w.rule(3) - 1);
        int x = way();
        int y = way();
        Check.script(w, "move 0,5,5;sync;bound 3;law most;goal 9;freeze 1");
        for (int what = 0; what < 3; what++) {
            w.would(site, x, y, what);
            w.walk(site, x, y, 99, what);
            w.race(x, y, what);
            w.goes(site, what);
            w.run(0, what);
            w.fair(what);
            w.span(site, what, true);
        }
        w.asked(site, x, y, 0);
        w.partner(site, x, y);
        w.limit(site, x, y);
        w.needs(site, x, y);
        w.spell(site, NONE);
        HushWatch other = twin();
        Check.script(other, "sync");
        Told.terms("whom a move would need, what would be heard,");
        Told.same("seed " + seed + ", asked, and not asked", Told.seen(w), Told.seen(other));
    }

    /** The last of 512 calls is answered as the first. */
    private static void usedToTheLast() {
        Told.terms("An object is used for at most 512 calls after it has been made; what later calls answer is free.");
        HushWatch w = new HushWatch();
        w.feed(0x73697465, 0x20312c32, 0x3b736974, 0x6520332c, 0x2d340000);
        w.text(0);
        int calls = 2;
        for (; calls < 511; calls++) {
            Told.due("call " + (calls + 1), w.move(calls % 2, calls / 2 % 2 == 0 ? 7 : -7, 1), 0);
        }
        Told.due("the 512th call", w.undo(), 39);
    }

    public static void main(String[] args) {
        usedToTheLast();
        for (long seed = 0; seed < STATES; seed++) {
            AgreementTest test = new AgreementTest(seed);
            test.noBoundIsCrossedUnheard();
            test.lawsAreConvex();
            test.movesAsAsked();
            test.movesAsAsked();
            test.farAsAsked();
            test.walksAndRaces();
            test.scriptsAsAsked();
            test.countsTowardAGoal();
            test.loggedUndoneAndKept();
            test.askingChangesNothing();
        }
        Told.finish("AgreementTest", Told.FIRST_LINES, Told.FIRST_LINES);
    }
}
