/**
 * The boundary cases of what is asked apart, of scripts done, of images and of what is held (promises 23 to
 * 40, and the document's third and fourth part). Each test names the document's sentence that would be broken.
 */
public final class AskBoundaryTest {
    private static final int NONE = HushWatch.NONE;
    private static final int HIDDEN = HushWatch.HIDDEN;
    private static final int LEAST = Integer.MIN_VALUE;
    private static final int GREATEST = Integer.MAX_VALUE;
    private static final String SITES = ";site 0,0;site 0,0";
    private static final String TRIPLE = ";site 0,0;site 0,0;site 0,0";
    private static final String EIGHT = "site 0,0;".repeat(7) + "site 0,0";

    /** What is asked of a site and a way. */
    private interface Question {
        long ask(HushWatch watch, int site, int x, int y);
    }

    /** A watch in the middle of things; site 2 is frozen. */
    private static HushWatch busy() {
        HushWatch w = Check.watch("bound 100;site 0,0;site 10,0;site 0,10;goal 20");
        w.move(0, 30, 0);
        w.add(1, 4);
        w.freeze(2);
        return w;
    }

    /** Site 0 at 99999,-99999, site 1 at -99999,99999; nobody spoke. */
    private static HushWatch far() {
        HushWatch w = Check.watch("bound 9999999;site 9,-9;site -9,9");
        for (int i = 0; i < 10; i++) {
            w.move(0, 9999, -9999);
            w.move(1, -9999, 9999);
        }
        return w;
    }

    /** Site 0 at 99998,0, and a bound that lets a point of 100002,0 be, and no further. */
    private static HushWatch atTheEdge() {
        HushWatch w = Check.watch("law taxi;bound 9999999" + SITES);
        for (int i = 0; i < 10; i++) {
            w.move(0, 9999, 0);
        }
        w.move(0, 8, 0);
        w.bound(100003);
        return w;
    }

    private static HushWatch above() {
        return Check.watch("bound 0" + TRIPLE);
    }

    private static HushWatch reached() {
        HushWatch w = Check.watch("goal 1" + SITES);
        w.add(0, 1);
        return w;
    }

    /** A question is refused for these moves, without a status, and nothing changes. */
    private static void refusedFor(Question question, long answer, int[]... moves) {
        HushWatch w = busy();
        for (int[] move : moves) {
            Told.due("of " + move[0] + ", " + move[1] + ", " + move[2],
                    question.ask(w, move[0], move[1], move[2]), answer);
        }
        Told.same("nothing changes", Told.seen(w), Told.seen(busy()));
        Told.due("no status", w.status(0) + w.status(1) + w.status(2), 0);
        Told.due("no watch", question.ask(new HushWatch(), 0, 1, 1), answer);
    }

    private static final int[][] NO_SITE = {{-1, 1, 1}, {3, 1, 1}, {8, 1, 1}, {LEAST, 1, 1}, {GREATEST, 1, 1}};
    private static final int[][] TOO_FAR = {{0, 10000, 0}, {0, -10000, 0}, {0, 0, 10000}, {0, 0, -10000},
        {0, LEAST, 0}, {0, 0, LEAST}, {0, GREATEST, 0}, {0, 0, GREATEST}};
    private static final int[][] SO_ALREADY = {{0, 0, 0}, {2, 1, 1}, {2, 0, 0}};

    private static void refusedAsMoved(Question question, long answer) {
        refusedFor(question, answer, NO_SITE);
        refusedFor(question, answer, TOO_FAR);
        refusedFor(question, answer, SO_ALREADY);
        int[][] beyond = {{0, 1, 0}, {0, 0, -1}, {1, -1, 0}, {1, 0, 1}};
        for (int[] move : beyond) {
            Told.due("the place would be out of bounds", question.ask(far(), move[0], move[1], move[2]), answer);
            Told.due("the place would not be", question.ask(far(), move[0], -move[1], -move[2]) != answer, true);
        }
    }

    private static void p23limit() {
        Told.promise(23, "LIMIT.");
        Told.terms("LIMIT of a SITE by a way: how often (200 at most) it can be MOVED so without that it SPEAKS "
                + "(or would be out of bounds).");
        int[] bounds = {2, 3, 399, 400, 401, 402, 403, 404, 9999999};
        int[] dues = {0, 1, 199, 199, 200, 200, 200, 200, 200};
        for (int i = 0; i < bounds.length; i++) {
            HushWatch w = Check.watch("bound " + bounds[i] + SITES);
            Told.due("bound " + bounds[i] + ", on x", w.limit(0, 1, 0), dues[i]);
            Told.due("bound " + bounds[i] + ", on y", w.limit(1, 0, 1), dues[i]);
        }
        Told.due("above", above().limit(0, -1, 0), 0);
        HushWatch w = Check.watch("law most;bound 9999999;site 9,-9;site 10,-10;site -9,9;site -10,10");
        int[][] ways = {{0, 9999, 0, 10}, {0, 0, -9999, 10}, {1, 9999, 0, 9}, {1, 0, -9999, 9}, {2, -9999, 0, 10},
            {2, 0, 9999, 10}, {3, -9999, 0, 9}, {3, 0, 9999, 9}};
        for (int[] way : ways) {
            Told.due("site " + way[0] + " by " + way[1] + "," + way[2], w.limit(way[0], way[1], way[2]), way[3]);
        }
        HushWatch drift = Check.watch("bound 10" + SITES);
        drift.move(0, 0, 2);
        drift.move(1, 2, 0);
        for (int site = 0; site < 2; site++) {
            Told.due("its drift counts, on x", drift.limit(site, 1, 0), 2);
            Told.due("its drift counts, on y", drift.limit(site, 0, 1), 2);
        }
        Told.due("at the edge", far().limit(0, 1, 0), 0);
        Told.due("at the edge", far().limit(1, 0, 9999), 0);
        Told.due("its value stays, its place does not", busy().limit(0, -9999, 9999), 10);
        Told.promise(23, "NONE: no such SITE, out of bounds (as MOVED), both are 0, it is FROZEN.");
        refusedFor(HushWatch::limit, NONE, NO_SITE);
        refusedFor(HushWatch::limit, NONE, TOO_FAR);
        refusedFor(HushWatch::limit, NONE, SO_ALREADY);
        Told.due("the greatest numbers", far().limit(0, -9999, 9999), 20);
        Told.due("the least numbers", far().limit(1, 9999, -9999), 20);
    }

    private static void p24would() {
        Told.promise(24, "WOULD: MESSAGES (0), partners asked (1), what comes of it (2).");
        int[][] dues = {{4, 0, 0, 0}, {5, 5, 1, 1}, {8, 5, 1, 1}, {9, 8, 2, 1}, {12, 8, 2, 1}, {13, 8, 2, 2},
            {9999, 8, 2, 2}};
        HushWatch w = Check.watch("bound 13" + TRIPLE);
        for (int[] due : dues) {
            for (int what = 0; what < 3; what++) {
                Told.due("would(1, " + due[0] + ", 0, " + what + ")", w.would(1, due[0], 0, what), due[what + 1]);
            }
        }
        Told.due("quiet behind a question that was not", w.would(1, 4, 0, 2), 0);
        Told.due("quiet behind a question that was not", w.would(1, 4, 0, 1), 0);
        int[] aboves = {6, 0, 2};
        for (int what = 0; what < 3; what++) {
            Told.due("above, would(1, 1, 0, " + what + ")", above().would(1, 1, 0, what), aboves[what]);
        }
        Told.terms("(Apart, from as it is now.)");
        Told.same("nothing changes", Told.seen(w), Told.seen(Check.watch("bound 13" + TRIPLE)));
        Told.promise(24, "NONE: as MOVED would be refused,");
        for (int what = 0; what < 3; what++) {
            int asked = what;
            refusedAsMoved((watch, site, x, y) -> watch.would(site, x, y, asked), NONE);
        }
        Told.promise(24, "no such what.");
        int[] wrong = {-1, 3, LEAST, GREATEST};
        for (int what : wrong) {
            Told.due("what " + what, w.would(1, 5, 0, what), NONE);
            Told.due("quiet, what " + what, w.would(1, 1, 0, what), NONE);
        }
    }

    private static void p25asked() {
        Told.promise(25, "The i-th partner that would be asked, were a SITE MOVED so.");
        HushWatch w = Check.watch("bound 13" + TRIPLE);
        int[][] dues = {{4, NONE, NONE}, {5, 2, NONE}, {9, 2, 0}, {13, 2, 0}};
        for (int[] due : dues) {
            Told.due("the first, by " + due[0], w.asked(1, due[0], 0, 0), due[1]);
            Told.due("the second, by " + due[0], w.asked(1, due[0], 0, 1), due[2]);
        }
        Told.due("above, nobody is", above().asked(0, 1, 0, 0), NONE);
        Told.promise(25, "NONE: as MOVED would be refused,");
        HushWatch quiet = busy();
        for (int[][] moves : new int[][][] {NO_SITE, TOO_FAR, SO_ALREADY}) {
            refusedFor((watch, site, x, y) -> watch.asked(site, x, y, 0), NONE, moves);
        }
        quiet.freeze(1);
        Told.due("the others are frozen", quiet.asked(0, 500, 0, 0), NONE);
        HushWatch edge = atTheEdge();
        Told.due("to the edge", edge.asked(0, 1, 2, 0), 1);
        Told.due("the place would be out of bounds", edge.asked(0, 2, 2, 0), NONE);
        Told.due("the other one could be moved so", edge.asked(1, 2, 2, 0), 0);
        Told.promise(25, "no such one.");
        int[] wrong = {-1, -2, 2, 3, 7, 8, LEAST, GREATEST};
        for (int i : wrong) {
            Told.due("partner " + i, w.asked(1, 13, 0, i), NONE);
        }
    }

    private static void p26walk() {
        Told.promise(26, "MESSAGES of a way that a SITE is MOVED n times (1 .. 99) one behind the other: in all (0), "
                + "how often it would SPEAK (1), how often it can be MOVED (2; it ends where it can't).");
        int[] times = {1, 2, 98, 99};
        for (int n : times) {
            HushWatch w = busy();
            HushWatch hand = busy();
            int messages = 0;
            for (int i = 0; i < n; i++) {
                messages += hand.move(1, 3, -1);
            }
            Told.due(n + " times, messages", w.walk(1, 3, -1, n, 0), messages);
            Told.due(n + " times, it speaks", w.walk(1, 3, -1, n, 1), hand.most(1) - 1);
            Told.due(n + " times, moves", w.walk(1, 3, -1, n, 2), n);
            Told.same("nothing changes", Told.seen(w), Told.seen(busy()));
        }
        HushWatch w = Check.watch("law most;bound 9999999;site 9,0;site 0,-10");
        int[][] ends = {{0, 9999, 0, 9, 9}, {0, 9999, 0, 10, 10}, {0, 9999, 0, 11, 10}, {0, 9999, 0, 99, 10},
            {1, 0, -9999, 99, 9}, {0, -9999, 0, 99, 10}};
        for (int[] way : ends) {
            Told.due("moves", w.walk(way[0], way[1], way[2], way[3], 2), way[4]);
            Told.due("messages", w.walk(way[0], way[1], way[2], way[3], 0), 0);
        }
        Told.promise(26, "NONE: as MOVED would be refused at once,");
        refusedAsMoved((watch, site, x, y) -> watch.walk(site, x, y, 5, 2), NONE);
        refusedAsMoved((watch, site, x, y) -> watch.walk(site, x, y, 1, 0), NONE);
        Told.promise(26, "out of bounds, no such what.");
        int[] counts = {0, -1, 100, LEAST, GREATEST};
        int[] whats = {-1, 3, LEAST, GREATEST};
        for (int what = 0; what < 3; what++) {
            for (int n : counts) {
                Told.due("n " + n, w.walk(0, 1, 1, n, what), NONE);
            }
        }
        for (int what : whats) {
            Told.due("what " + what, w.walk(0, 1, 1, 1, what), NONE);
        }
    }

    private static void p27partner() {
        Told.promise(27, "PARTNER.");
        Told.terms("PARTNER of a SITE by a way: the one other SITE, not FROZEN, that, asked alone, would do (that "
                + "with the least number), were it MOVED so (it must not be QUIET then).");
        HushWatch w = Check.watch("bound 13" + TRIPLE);
        Told.due("4, 4: points of 12", w.partner(0, 8, 0), 1);
        Told.due("the least number", w.partner(1, 5, 0), 0);
        Told.due("the least number", w.partner(2, 5, 0), 0);
        Told.promise(27, "NONE: none,");
        Told.due("5, 4: a point of 15", w.partner(0, 9, 0), NONE);
        w.move(0, 4, 0);
        Told.due("with what site 0 has it would be 5, 4", w.partner(1, 5, 0), 2);
        w.freeze(2);
        Told.due("site 2 is frozen", w.partner(1, 5, 0), NONE);
        w.sync();
        w.freeze(0);
        Told.due("both are frozen", w.partner(1, 5, 0), NONE);
        HushWatch signs = Check.watch("law most;bound 13" + TRIPLE);
        signs.move(0, -4, 0);
        Told.due("what one has less helps", signs.partner(2, 10, 0), 0);
        Told.promise(27, "as MOVED would be refused,");
        for (int[][] moves : new int[][][] {NO_SITE, TOO_FAR, SO_ALREADY}) {
            refusedFor(HushWatch::partner, NONE, moves);
        }
        refusedFor(HushWatch::partner, NONE, new int[] {2, 99, 0});
        Told.promise(27, "it would be QUIET, the watch is ABOVE.");
        HushWatch quiet = Check.watch("bound 13" + TRIPLE);
        Told.due("a point of 12", quiet.partner(0, 4, 0), NONE);
        Told.due("a point of 15", quiet.partner(0, 5, 0), 1);
        Told.due("above", above().partner(0, -1, 0), NONE);
        Told.due("above", above().partner(0, 1, 0), NONE);
    }

    /** A place that would be out of bounds, by a move that a partner could else bear. */
    private static void p27partnerAtTheEdge() {
        Told.promise(27, "as MOVED would be refused,");
        HushWatch w = atTheEdge();
        Told.due("to the edge: 1,1 and 0,1 are quiet, 1,2 is not", w.partner(0, 1, 2), 1);
        Told.due("beyond the edge", w.partner(0, 2, 2), NONE);
        Told.due("the other one could be moved so", w.partner(1, 2, 2), 0);
    }

    private static void p28race() {
        Told.promise(28, "RACE: the SITE (0), moves, that one, too (1).");
        Told.terms("RACE of a way: all SITES that are not FROZEN are MOVED so, by turns by numbers, 200 times each at "
                + "most, till one SPEAKS or one can't be MOVED: who SPEAKS first, behind how many moves.");
        int[][] firsts = {{400, 0, 399}, {399, 0, 399}, {398, 0, 397}, {2, 0, 1}, {401, NONE, NONE}, {402, NONE, NONE}};
        for (int[] first : firsts) {
            HushWatch w = Check.watch("bound " + first[0] + SITES);
            Told.due("bound " + first[0] + ", who", w.race(1, 0, 0), first[1]);
            Told.due("bound " + first[0] + ", moves", w.race(1, 0, 1), first[2]);
            Told.due("bound " + first[0] + ", on y", w.race(0, 1, 1), first[2]);
        }
        HushWatch second = Check.watch("bound 402" + SITES);
        second.move(1, 1, 0);
        Told.due("the last move of all, who", second.race(1, 0, 0), 1);
        Told.due("the last move of all", second.race(1, 0, 1), 400);
        HushWatch frozen = Check.watch("bound 400" + SITES);
        frozen.freeze(0);
        Told.due("the frozen one is not moved, who", frozen.race(1, 0, 0), 1);
        Told.due("the frozen one is not moved", frozen.race(1, 0, 1), 200);
        Told.due("above, who", above().race(-1, 0, 0), 0);
        Told.due("above, at once", above().race(-1, 0, 1), 1);
        Told.promise(28, "NONE: nobody SPEAKS,");
        Told.due("downhill", Check.watch("bound 5" + SITES).race(-1, 0, 0), NONE);
        String[] ends = {"bound 199990;site 0,0;site 10,10", "bound 199991;site 0,0;site 10,10",
            "bound 199990;site 10,10;site 0,0"};
        int[] dues = {19, NONE, NONE};
        for (int i = 0; i < ends.length; i++) {
            HushWatch w = Check.watch("law most;" + ends[i]);
            Told.due(ends[i] + ", on x", w.race(9999, 0, 1), dues[i]);
            Told.due(ends[i] + ", on y", w.race(0, 9999, 1), dues[i]);
            Told.due(ends[i] + ", on both", w.race(9998, 9999, 1), dues[i]);
        }
        Told.due("one can't be moved", far().race(0, 9999, 0), NONE);
        Told.due("one can't be moved", far().race(1, 1, 1), NONE);
        HushWatch still = far();
        still.freeze(0);
        Told.due("the frozen one need not be moved", still.race(9999, -9999, 1), NONE);
    }

    private static void p28raceRefused() {
        Told.promise(28, "no WATCH, out of bounds (as MOVED), both are 0, no such what.");
        HushWatch w = busy();
        for (int what = 0; what < 2; what++) {
            for (int[] move : TOO_FAR) {
                Told.due("by " + move[1] + "," + move[2], w.race(move[1], move[2], what), NONE);
            }
            Told.due("both are 0", w.race(0, 0, what), NONE);
            Told.due("above, both are 0", above().race(0, 0, what), NONE);
            Told.due("no watch", new HushWatch().race(5, 5, what), NONE);
        }
        int[] wrong = {-1, 2, LEAST, GREATEST};
        for (int what : wrong) {
            Told.due("what " + what, w.race(5, 5, what), NONE);
        }
        Told.due("the edge of a way, who", w.race(9999, 9999, 0), 0);
        Told.due("the edge of a way: values of 65, 95, 125", w.race(9999, -9989, 1), 3);
        Told.due("the edge of a way: values of 65, 95, 125", w.race(-9989, 9999, 1), 3);
        Told.due("above, the least way", above().race(-9999, -9999, 1), 1);
        Told.same("nothing changes", Told.seen(w), Told.seen(busy()));
    }

    private static void p29needs() {
        Told.promise(29, "NEEDS.");
        Told.terms("NEEDS: the least BOUND by which a SITE, MOVED so, would be QUIET, the watch not ABOVE.");
        String[] laws = {"sum", "square", "most", "taxi"};
        int[][] ways = {{7, 3}, {-8, 2}, {3, -9}, {20, 1}};
        for (int law = 0; law < 4; law++) {
            HushWatch w = Check.watch("law " + laws[law] + ";bound 9999999;site 0,0;site 1,1;site -1,-1");
            for (int[] way : ways) {
                int least = (int) w.needs(1, way[0], way[1]);
                HushWatch at = Check.watch("law " + laws[law] + ";bound 9999999;site 0,0;site 1,1;site -1,-1");
                at.bound(least);
                Told.due(laws[law] + ", the least", at.most(5) == 1 || at.would(1, way[0], way[1], 2) == 0, true);
                at.bound(least - 1);
                Told.due(laws[law] + ", one less", at.would(1, way[0], way[1], 2) == 0, false);
            }
        }
        HushWatch up = Check.watch("bound -5;site 3,4;site 0,0");
        Told.due("it is above now: 7 and 2 times 3, and 1", up.needs(0, 2, 1), 14);
        HushWatch square = Check.watch("law square;bound 5;" + EIGHT);
        Told.due("beyond what a BOUND can be", square.needs(7, -9999, 9999), 2 * 79992L * 79992L + 1);
        HushWatch most = Check.watch("law most;bound 5;site 1,20;site 2,30");
        Told.due("each axis by itself: 3 and 50, 2 times 4 and 1", most.needs(1, 4, 1), 53);
        Told.due("each axis by itself: 3 and 50, 2 times 40 and 1", most.needs(1, 40, 1), 84);
        Told.due("below 0", Check.watch("bound 5" + SITES).needs(0, -9999, -9999), -39995);
        Told.due("with what it moved and has of others", busy().needs(0, 1, 0), 10 + 10 + 3 * 16 + 1);
        Told.promise(29, "HIDDEN: as MOVED would be refused.");
        refusedAsMoved(HushWatch::needs, HIDDEN);
    }

    private static void p30span() {
        Told.promise(30, "SPAN on an axis (0 x, 1 y): the least k (most false), the greatest.");
        Told.terms("SPAN of a SITE: the least and the greatest k by which it is QUIET with k more on an axis "
                + "(-200 .. 200; as long as all between k and 0 are).");
        int[] bounds = {1, 2, 3, 398, 399, 400, 401, 402, 403, 9999999};
        int[] dues = {0, 0, 1, 198, 199, 199, 200, 200, 200, 200};
        for (int i = 0; i < bounds.length; i++) {
            HushWatch w = Check.watch("law most;bound " + bounds[i] + SITES);
            for (int axis = 0; axis < 2; axis++) {
                Told.due("bound " + bounds[i] + ", the greatest", w.span(1, axis, true), dues[i]);
                Told.due("bound " + bounds[i] + ", the least", w.span(1, axis, false), -dues[i]);
            }
        }
        HushWatch sum = Check.watch("bound 10;site 0,0;site 0,0");
        sum.move(0, 2, 0);
        Told.due("its drift counts", sum.span(0, 0, true), 2);
        Told.due("downhill", sum.span(0, 0, false), -200);
        Told.due("the other axis", sum.span(0, 1, true), 2);
        Told.due("another site", sum.span(1, 0, true), 4);
        sum.move(1, 0, 3);
        Told.due("its drift on y counts", sum.span(1, 0, true), 1);
        Told.due("its drift on y counts", sum.span(1, 1, true), 1);
        for (int axis = 0; axis < 2; axis++) {
            Told.due("above, the greatest", above().span(0, axis, true), 0);
            Told.due("above, the least", above().span(0, axis, false), 0);
        }
        Told.due("a frozen one", busy().span(2, 0, true), (99 - 20) / 3);
        Told.promise(30, "HIDDEN: no such ones, it is not QUIET with 0.");
        int[][] wrong = {{-1, 0}, {3, 0}, {8, 0}, {LEAST, 0}, {GREATEST, 0}, {0, -1}, {0, 2}, {0, LEAST},
            {0, GREATEST}};
        HushWatch w = busy();
        for (int[] call : wrong) {
            Told.due("span(" + call[0] + ", " + call[1] + ", true)", w.span(call[0], call[1], true), HIDDEN);
            Told.due("span(" + call[0] + ", " + call[1] + ", false)", w.span(call[0], call[1], false), HIDDEN);
        }
        Told.due("no watch", new HushWatch().span(0, 0, true), HIDDEN);
        // Behind every act all are QUIET (they are heard or share, if not), so none is HIDDEN for that.
        Told.due("all are quiet", w.most(6), 7);
    }

    /** GOES by the document's words, a 1 at a time: how many times, messages. */
    private static int[] goesByHand(HushWatch w, int site) {
        int sites = w.rule(3);
        int goal = w.rule(2);
        int known = w.count(0);
        int signals = w.count(2);
        int rest = w.site(site, 12);
        int counts = w.count(5);
        int[] told = new int[2];
        while (known < goal) {
            told[0]++;
            counts++;
            int step = (goal - known) / (2 * sites);
            if (step == 0) {
                told[1]++;
                known++;
                continue;
            }
            rest++;
            if (rest == step) {
                rest = 0;
                signals++;
                told[1]++;
            }
            if (signals == sites) {
                told[1] += 2 * sites;
                known = counts;
                signals = 0;
                rest = 0;
            }
        }
        return told;
    }

    private static void p31goes() {
        Told.promise(31, "GOES: how many times (0), MESSAGES (1).");
        int[] goals = {1, 2, 3, 4, 5, 15, 16, 17, 31, 32, 33, 100, 9999};
        for (int goal : goals) {
            for (String sites : new String[] {"site 0,0;site 0,0", EIGHT}) {
                HushWatch w = Check.watch("goal " + goal + ";" + sites);
                for (int turn = 0; turn < 4 && w.count(4) == 0; turn++) {
                    for (int what = 0; what < 2; what++) {
                        Told.due("goal " + goal + ", goes(1, " + what + ")", w.goes(1, what), goesByHand(w, 1)[what]);
                        Told.due("goal " + goal + ", goes(0, " + what + ")", w.goes(0, what), goesByHand(w, 0)[what]);
                    }
                    w.add(turn % 2, 1 + turn * goal / 20);
                }
            }
        }
        HushWatch last = Check.watch("goal 1" + SITES);
        Told.due("one more", last.goes(0, 0), 1);
        Told.due("one more", last.goes(0, 1), 1);
        HushWatch frozen = busy();
        Told.due("a frozen one, too", frozen.goes(2, 0), goesByHand(frozen, 2)[0]);
        Told.promise(31, "NONE: no such SITE, no such what, GOAL is REACHED.");
        int[] sites = {-1, 3, 8, LEAST, GREATEST};
        int[] whats = {-1, 2, LEAST, GREATEST};
        for (int site : sites) {
            Told.due("goes(" + site + ", 0)", busy().goes(site, 0), NONE);
            Told.due("goes(" + site + ", 1)", busy().goes(site, 1), NONE);
        }
        for (int what : whats) {
            Told.due("goes(0, " + what + ")", busy().goes(0, what), NONE);
        }
        Told.due("reached", reached().goes(0, 0), NONE);
        Told.due("reached", reached().goes(1, 1), NONE);
        HushWatch over = Check.watch("goal 1" + SITES);
        over.add(0, 2);
        Told.due("more than the goal", over.goes(0, 0), NONE);
        Told.due("no watch", new HushWatch().goes(0, 0), NONE);
    }

    private static void p32fair() {
        Told.promise(32, "FAIR: by VALUE of POINT (0), by SLACK (1).");
        Told.terms("FAIR: the SITE whose POINT has the greatest VALUE; that with the longest SLACK (both axes without "
                + "signs, added up) (of several the lowest, both).");
        HushWatch w = Check.watch("bound 100;" + EIGHT);
        Told.due("all alike", w.fair(0), 0);
        Told.due("all alike", w.fair(1), 0);
        for (int site = 1; site < 8; site++) {
            HushWatch one = Check.watch("bound 100;" + EIGHT);
            one.move(site, 1, 0);
            Told.due("moved a little: " + site, one.fair(0), site);
            HushWatch other = Check.watch("bound 100;" + EIGHT);
            other.move(site, 13, 13);
            Told.due("it has shared: " + site, other.fair(1), site);
        }
        w.move(7, 1, 0);
        Told.due("the last", w.fair(0), 7);
        Told.due("no slack", w.fair(1), 0);
        w.move(3, 0, 1);
        Told.due("of two the lowest", w.fair(0), 3);
        w.move(3, 0, -3);
        w.move(7, -3, 0);
        Told.due("of those that are left the lowest", w.fair(0), 0);
        for (int site = 0; site < 8; site++) {
            w.move(site, -5 - site, 0);
        }
        Told.due("all below 0", w.fair(0), 0);
        HushWatch slack = Check.watch("law most;bound 10;site 0,0;site 0,0;site 0,0;site 0,0");
        // Site 2 shares 0,3 with site 3: 0,2 and 0,1; then site 1 shares 3,0 with site 2's 0,2: 2,1 and 1,1.
        slack.move(2, 0, 3);
        Told.due("slacks of 2: 0,-1; of 3: 0,1", slack.site(2, 5) * 10 + slack.site(3, 5), -9);
        Told.due("of two the lowest, by its length", slack.fair(1), 2);
        slack.move(1, 3, 0);
        Told.due("slacks of 1 and 2", slack.site(1, 4) * 100 + slack.site(2, 4), -99);
        Told.due("of 1 and 2 on y", slack.site(1, 5) * 100 + slack.site(2, 5), 98);
        Told.due("both axes without signs, added up: 2 and 3", slack.fair(1), 2);
        Told.promise(32, "NONE: no WATCH, no such what.");
        int[] wrong = {-1, 2, LEAST, GREATEST};
        for (int what : wrong) {
            Told.due("fair(" + what + ")", w.fair(what), NONE);
        }
        Told.due("no watch", new HushWatch().fair(0), NONE);
        Told.due("no watch", new HushWatch().fair(1), NONE);
    }

    private static void p33spell() {
        Told.promise(33, "SPELL: how many bytes (i NONE), the i-th.");
        Told.terms("SPELL: bytes of 'site K at X,Y'");
        Told.terms("(all with a blank between words, numbers with a - if below 0): how many, the i-th.");
        HushWatch far = far();
        Told.same("the edge", Check.spelled(far, 0), "site 0 at 99999,-99999");
        Told.same("the edge", Check.spelled(far, 1), "site 1 at -99999,99999");
        HushWatch eight = Check.watch("site 0,0;".repeat(7) + "site -1,10");
        Told.same("the last", Check.spelled(eight, 7), "site 7 at -1,10");
        Told.same("0", Check.spelled(eight, 6), "site 6 at 0,0");
        Told.same("above, all are quiet", Check.spelled(above(), 1), "site 1 at 0,0");
        Told.promise(33, "NONE: no such ones.");
        int[][] wrong = {{7, 15}, {7, 16}, {7, -2}, {7, LEAST}, {7, GREATEST}, {6, 13}, {8, 0}, {8, NONE}, {-1, 0},
            {-1, NONE}, {LEAST, 0}, {GREATEST, 0}};
        for (int[] call : wrong) {
            Told.due("spell(" + call[0] + ", " + call[1] + ")", eight.spell(call[0], call[1]), NONE);
            Told.due("no watch", new HushWatch().spell(call[0], call[1]), NONE);
        }
        Told.due("the last byte", eight.spell(7, 14), '0');
        Told.due("the first byte", eight.spell(7, 0), 's');
    }

    private static void p34step() {
        Told.promise(34, "A STEP of a SCRIPT: 0 what (0 move, 1 add, 2 bound, 3 law, 4 sync, 5 goal, 6 freeze), "
                + "1 to 3 its numbers (LAW 0 .. 3; HIDDEN: there are fewer).");
        HushWatch w = new HushWatch();
        Check.script(w, "move 9999999,-9999999,0;add 1,2;bound 3;law taxi;sync;goal 4;freeze 5;"
                + "law sum;law square;law most");
        int[][] dues = {{0, 9999999, -9999999, 0}, {1, 1, 2, HIDDEN}, {2, 3, HIDDEN, HIDDEN}, {3, 3, HIDDEN, HIDDEN},
            {4, HIDDEN, HIDDEN, HIDDEN}, {5, 4, HIDDEN, HIDDEN}, {6, 5, HIDDEN, HIDDEN}, {3, 0, HIDDEN, HIDDEN},
            {3, 1, HIDDEN, HIDDEN}, {3, 2, HIDDEN, HIDDEN}};
        for (int i = 0; i < dues.length; i++) {
            for (int what = 0; what < 4; what++) {
                Told.due("step(0, " + i + ", " + what + ")", w.step(0, i, what), dues[i][what]);
            }
        }
        Told.promise(34, "HIDDEN: no such ones.");
        Check.script(w, "sync;".repeat(11) + "move 1,2,3");
        Check.script(w, "sync");
        Told.due("the twelfth", w.step(1, 11, 3), 3);
        int[][] wrong = {{0, 10, 0}, {1, 12, 0}, {2, 1, 0}, {3, 0, 0}, {4, 0, 0}, {-1, 0, 0}, {0, -1, 0}, {0, 0, -1},
            {0, 0, 4}, {LEAST, 0, 0}, {GREATEST, 0, 0}, {0, LEAST, 0}, {0, GREATEST, 0}, {0, 0, LEAST},
            {0, 0, GREATEST}};
        for (int[] call : wrong) {
            Told.due("step(" + call[0] + ", " + call[1] + ", " + call[2] + ")",
                    w.step(call[0], call[1], call[2]), HIDDEN);
            Told.due("no script", new HushWatch().step(call[0], call[1], call[2]), HIDDEN);
        }
    }

    private static void p35run() {
        Told.promise(35, "RUN: behind how many (0; NONE: all can be), MESSAGES (1).");
        Told.promise(36, "DO: how many STEPS were done.");
        for (int wrong = 0; wrong <= 12; wrong++) {
            HushWatch w = busy();
            String bad = wrong < 12 ? "goal 0" + ";sync".repeat(11 - wrong) : "";
            String text = "sync;".repeat(wrong) + bad;
            Check.script(w, wrong < 12 ? text : text.substring(0, text.length() - 1));
            Told.due("the one at " + wrong + " can't be", w.run(0, 0), wrong < 12 ? wrong : NONE);
            Told.due("messages of those ahead", w.run(0, 1), 6 * wrong);
            Told.due("apart", w.held(4), 3);
            Told.due("done", w.perform(0), wrong);
            Told.due("as acts", w.held(4), 3 + wrong);
            Told.due("no status", w.status(1), 0);
        }
        String[] refused = {"move 3,1,1", "move -1,1,1", "move 0,10000,0", "move 0,0,-10000", "move 0,9999999,0",
            "move 0,0,0", "move 2,1,1", "add 3,1", "add 0,0", "add 0,1000", "bound 100", "law sum", "goal 0",
            "goal 10000", "goal -1", "freeze 3", "freeze -1"};
        for (String step : refused) {
            HushWatch w = busy();
            Check.script(w, step);
            String before = Told.seen(w);
            Told.due(step, w.run(0, 0), 0);
            Told.due(step, w.run(0, 1), 0);
            Told.due(step, w.perform(0), 0);
            Told.same(step + " changes nothing", Told.seen(w), before);
            Told.due(step + ": no status", w.status(0) + w.status(1) + w.status(2), 0);
        }
    }

    /** What a step changes counts for the steps behind it. */
    private static void p35oneBehindTheOther() {
        Told.terms("RUN of a SCRIPT: behind how many STEPS the first is that can't be; MESSAGES of those ahead.");
        String[] texts = {"bound 7;bound 7", "law taxi;law taxi", "freeze 0;move 0,1,1", "freeze 0;freeze 1",
            "goal 1;add 0,1;add 0,1", "freeze 2;move 2,1,1", "move 0,9999,9999;move 1,-1,0;sync", "law most;law sum"};
        int[] behind = {1, 1, 1, 1, 2, NONE, NONE, NONE};
        int[] messages = {6, 6, 0, 0, 1, 0, 7 + 6 + 6, 12};
        for (int i = 0; i < texts.length; i++) {
            HushWatch w = busy();
            Check.script(w, texts[i]);
            Told.due(texts[i], w.run(0, 0), behind[i]);
            Told.due(texts[i] + ", messages", w.run(0, 1), messages[i]);
            HushWatch hand = busy();
            Told.due("apart", w.most(0), hand.most(0));
            int was = w.most(0);
            w.perform(0);
            Told.due(texts[i] + ", done", w.most(0) - was, messages[i]);
        }
        HushWatch numbers = Check.watch("bound 100" + SITES);
        Check.script(numbers, "move 1,2,3;add 1,4");
        Told.due("both numbers of a move, and the site", numbers.perform(0), 2);
        Told.due("x", numbers.site(1, 0), 2);
        Told.due("y", numbers.site(1, 1), 3);
        Told.due("the count", numbers.site(1, 11), 4);
        HushWatch far = far();
        Check.script(far, "move 0,-1,0;move 0,1,0;move 0,1,0");
        Told.due("the place would be out of bounds", far.run(0, 0), 2);
    }

    private static void p35refused() {
        Told.promise(35, "HIDDEN: no such SCRIPT, no WATCH, no such what.");
        HushWatch w = busy();
        Check.script(w, "sync");
        int[] scripts = {1, -1, 4, LEAST, GREATEST};
        int[] whats = {-1, 2, LEAST, GREATEST};
        for (int script : scripts) {
            Told.due("run(" + script + ", 0)", w.run(script, 0), HIDDEN);
            Told.due("run(" + script + ", 1)", w.run(script, 1), HIDDEN);
        }
        for (int what : whats) {
            Told.due("run(0, " + what + ")", w.run(0, what), HIDDEN);
        }
        HushWatch none = new HushWatch();
        Check.script(none, "sync");
        Told.due("no watch", none.run(0, 0), HIDDEN);
        Told.due("no watch", none.run(0, 1), HIDDEN);
        Told.promise(36, "NONE: no such SCRIPT, no WATCH.");
        String before = Told.seen(w);
        for (int script : scripts) {
            Told.due("perform(" + script + ")", w.perform(script), NONE);
        }
        Told.due("no watch", none.perform(0), NONE);
        Told.same("nothing changes", Told.seen(w), before);
        Told.due("no status", w.status(0) + none.status(0), 0);
        for (int i = 1; i < 4; i++) {
            Check.script(w, "goal " + i);
        }
        Told.due("the fourth", w.perform(3), 1);
        Told.due("the fourth", w.rule(2), 3);
        Told.due("a fifth", w.perform(4), NONE);
    }

    private static void p37most() {
        Told.promise(37, "MESSAGES (0), how often one SPOKE (1), BALANCED (2), all were HEARD (3), CROSSED (4), "
                + "whether ABOVE (5; 1, 0), SITES that are QUIET (6, bits), that have a SLACK (7, bits), SLACKS x, y "
                + "added up (8, 9), SITES that were never MOVED since all were HEARD (10, bits: PLACE is that HEARD), "
                + "FROZEN ones (11, bits).");
        HushWatch eight = Check.watch("law most;bound 100;" + EIGHT);
        eight.move(7, 13, 1);
        eight.move(6, 0, 1);
        eight.freeze(7);
        int[] dues = {5, 1, 1, 0, 0, 0, 255, 129, 0, 0, 63, 128};
        for (int what = 0; what < 12; what++) {
            Told.due("most(" + what + ")", eight.most(what), dues[what]);
        }
        eight.move(0, 999, 0);
        int[] heard = {5 + 1 + 12 + 1 + 8, 2, 1, 1, 1, 1, 255, 0, 0, 0, 255, 128};
        for (int what = 0; what < 12; what++) {
            Told.due("all heard, most(" + what + ")", eight.most(what), heard[what]);
        }
        eight.bound(9999999);
        eight.add(3, 999);
        Told.due("messages of all acts", eight.most(0), 27 + 16 + 8 + 16);
        Told.due("heard by hand, too", eight.most(3), 2);
        Told.due("crossed by a bound, too", eight.most(4), 2);
        HushWatch slack = Check.watch("law most;bound 10" + SITES);
        slack.move(1, 0, 5);
        Told.due("a slack on y alone", slack.most(7), 3);
        slack.move(1, 0, -5);
        Told.due("its place is that heard again", slack.most(10), 3);
        slack.move(0, 0, 1);
        Told.due("moved on y alone", slack.most(10), 2);
        Told.promise(37, "HIDDEN: no WATCH, no such what.");
        int[] wrong = {-1, 12, LEAST, GREATEST};
        for (int what : wrong) {
            Told.due("most(" + what + ")", slack.most(what), HIDDEN);
        }
        for (int what = -1; what < 13; what++) {
            Told.due("no watch, most(" + what + ")", new HushWatch().most(what), HIDDEN);
        }
    }

    private static void p38image() {
        Told.promise(38, "An IMAGE (instead of the one ahead): MESSAGES.");
        HushWatch w = busy();
        Told.due("messages", w.image(), 6);
        Told.due("it is no act", w.held(4), 3);
        w.sync();
        Told.due("instead of the one ahead", w.image(), 12);
        w.sync();
        Told.due("back to the later one", w.back(), 12);
        Told.due("back to the later one", w.most(3), 1);
        Told.due("of a new watch", Check.watch("bound 5" + SITES).image(), 0);
        Told.promise(38, "NONE: no WATCH.");
        HushWatch none = new HushWatch();
        Told.due("no watch", none.image(), NONE);
        Check.tape(none, "site 1,1;site 2,2");
        none.text(0);
        Told.due("the refused one is none", none.back(), NONE);
    }

    private static void p39back() {
        Told.promise(39, "BACK: MESSAGES.");
        Told.terms("An IMAGE keeps all that ACTS change; BACK: it is so again (no ACT can be UNDONE then).");
        HushWatch w = busy();
        w.image();
        for (int round = 0; round < 2; round++) {
            w.freeze(2);
            w.move(2, 500, 500);
            w.move(0, 1, 1);
            w.law(1);
            w.bound(3);
            w.add(0, 999);
            w.goal(5);
            for (int i = 0; i < 101; i++) {
                w.sync();
            }
            w.move(9, 1, 1);
            Told.due("messages", w.back(), 6);
            HushWatch other = busy();
            other.image();
            other.back();
            Told.same("it is so again", Told.seen(w), Told.seen(other));
            Told.due("no act can be undone", w.undo(), NONE);
            Told.due("status stays", w.status(0), round + 1);
            Told.due("the log is so again", w.log(2, 2), 5);
        }
        w.sync();
        Told.due("acts behind it can be undone", w.undo(), 0);
        Told.due("no more", w.undo(), NONE);
    }

    /** All sixty lines of the log come back, wherever in the log's room they stood. */
    private static void p39backWithTheLog() {
        Told.terms("An IMAGE keeps all that ACTS change; BACK: it is so again (no ACT can be UNDONE then).");
        int[] acts = {60, 75, 130};
        for (int done : acts) {
            HushWatch w = Check.watch("bound 5" + SITES);
            for (int i = 1; i <= done; i++) {
                w.goal(i);
            }
            w.image();
            for (int i = 0; i < 105; i++) {
                w.sync();
            }
            w.back();
            Told.due(done + " acts, how long", w.held(3), 60);
            for (int i = 0; i < 60; i++) {
                Told.due(done + " acts, log(" + i + ", 1)", w.log(i, 1), done - i);
            }
        }
    }

    private static void p39noImage() {
        Told.promise(39, "NONE: no IMAGE of this WATCH.");
        HushWatch w = busy();
        String before = Told.seen(w);
        Told.due("none", w.back(), NONE);
        Told.same("nothing changes", Told.seen(w), before);
        Told.due("acts can still be undone", w.undo(), 2);
        w.image();
        Check.tape(w, "site 1,1");
        w.text(0);
        Told.due("no other watch came", w.back(), 6);
        Check.script(w, "sync");
        Told.due("a script is no other watch", w.back(), 6);
        Check.tape(w, "bound 100;site 0,0;site 10,0;site 0,10;goal 20");
        w.text(0);
        Told.due("another watch, the same text", w.back(), NONE);
        Told.due("nothing changes", w.most(0), 0);
        w.image();
        Told.due("its own image", w.back(), 0);
        Told.due("no watch", new HushWatch().back(), NONE);
    }

    private static void p40held() {
        Told.promise(40, "0 SITES, 1 SCRIPTS, 2 bytes of the TAPE, 3 how long the LOG is, 4 ACTS that can be UNDONE.");
        HushWatch w = Check.watch(EIGHT);
        for (int i = 0; i < 4; i++) {
            Check.script(w, "sync");
        }
        for (int i = 0; i < 61; i++) {
            w.sync();
        }
        Check.tape(w, "x".repeat(320));
        int[] full = {8, 4, 320, 60, 40};
        for (int what = 0; what < 5; what++) {
            Told.due("full, held(" + what + ")", w.held(what), full[what]);
            Told.due("new, held(" + what + ")", new HushWatch().held(what), 0);
        }
        w.undo();
        Told.due("one undone", w.held(4), 39);
        Told.promise(40, "HIDDEN for others.");
        int[] wrong = {-1, 5, LEAST, GREATEST};
        for (int what : wrong) {
            Told.due("held(" + what + ")", w.held(what), HIDDEN);
            Told.due("new, held(" + what + ")", new HushWatch().held(what), HIDDEN);
        }
    }

    public static void main(String[] args) {
        p23limit();
        p24would();
        p25asked();
        p26walk();
        p27partner();
        p27partnerAtTheEdge();
        p28race();
        p28raceRefused();
        p29needs();
        p30span();
        p31goes();
        p32fair();
        p33spell();
        p34step();
        p35run();
        p35oneBehindTheOther();
        p35refused();
        p37most();
        p38image();
        p39back();
        p39backWithTheLog();
        p39noImage();
        p40held();
        Told.finish("AskBoundaryTest", 23, 40);
    }
}
