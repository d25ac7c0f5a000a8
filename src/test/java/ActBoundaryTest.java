import java.math.BigInteger;
import java.util.List;
import java.util.function.Supplier;
import java.util.function.ToLongFunction;

/**
 * The boundary cases of what is told of a watch and of acts (promises 6 to 22, and the document's second
 * part). Each test names the document's sentence that would be broken.
 */
public final class ActBoundaryTest {
    private static final int NONE = HushWatch.NONE;
    private static final int HIDDEN = HushWatch.HIDDEN;
    private static final int LEAST = Integer.MIN_VALUE;
    private static final int GREATEST = Integer.MAX_VALUE;
    private static final String PAIR = "bound 10;site 0,0;site 0,0";
    private static final String TRIPLE = ";site 0,0;site 0,0;site 0,0";
    private static final String EIGHT = "site 0,0;".repeat(7) + "site 0,0";
    private static final String NOTHING_CHANGES = "What is refused answers as told and changes nothing but STATUS.";

    /** A watch in the middle of things: slacks, a rest, a frozen site, a log, an act undone. */
    private static HushWatch busy() {
        HushWatch w = Check.watch("bound 100;site 0,0;site 10,0;site 0,10;goal 20");
        w.move(0, 30, 0);
        w.add(1, 4);
        w.freeze(2);
        w.goal(20);
        w.undo();
        return w;
    }

    /** Site 0 at 99999,-99999, site 1 at -99999,99999, site 2 at 0,0; nobody spoke. */
    private static HushWatch far() {
        HushWatch w = Check.watch("bound 9999999;site 9,-9;site -9,9;site 0,0");
        for (int i = 0; i < 10; i++) {
            w.move(0, 9999, -9999);
            w.move(1, -9999, 9999);
        }
        return w;
    }

    private static HushWatch reached() {
        HushWatch w = Check.watch("goal 1;" + PAIR);
        w.add(1, 1);
        return w;
    }

    /** A refused call answers so, counts in this status alone (none, if below 0) and changes nothing else. */
    private static void refused(Supplier<HushWatch> made, ToLongFunction<HushWatch> call, long answer, int status,
            String name) {
        HushWatch w = made.get();
        // Another one made likewise is looked at, so that this one stays below its 512 calls.
        String before = Told.seen(made.get());
        int[] was = {w.status(0), w.status(1), w.status(2)};
        Told.due(name, call.applyAsLong(w), answer);
        for (int what = 0; what < 3; what++) {
            Told.due(name + ": status(" + what + ")", w.status(what), was[what] + (what == status ? 1 : 0));
        }
        Told.same(name + " changes nothing", Told.seen(w), before);
        HushWatch other = made.get();
        Told.due(name + ": acts to undo", w.undo(), other.undo());
        Told.same(name + ": the act ahead is undone", Told.seen(w), Told.seen(other));
    }

    private static void p06rule() {
        Told.promise(6, "0 the LAW (0 sum, 1 square, 2 most, 3 taxi), 1 BOUND, 2 GOAL, 3 how many SITES, all as now.");
        HushWatch w = Check.watch("law taxi;bound -9999999;goal 1;" + EIGHT);
        int[] dues = {3, -9999999, 1, 8};
        for (int what = 0; what < 4; what++) {
            Told.due("rule(" + what + ")", w.rule(what), dues[what]);
        }
        w.bound(9999999);
        w.goal(9999);
        Told.due("bound as now", w.rule(1), 9999999);
        Told.due("goal as now", w.rule(2), 9999);
        for (int law = 0; law < 4; law++) {
            w.law(law);
            Told.due("law as now", w.rule(0), law);
        }
        Told.promise(6, "HIDDEN: no WATCH, no such what.");
        int[] wrong = {-1, 4, LEAST, GREATEST};
        for (int what : wrong) {
            Told.due("rule(" + what + ")", w.rule(what), HIDDEN);
        }
        for (int what = -1; what < 5; what++) {
            Told.due("no watch, rule(" + what + ")", new HushWatch().rule(what), HIDDEN);
        }
    }

    private static void p07site() {
        Told.promise(7, "Of a SITE: 0, 1 PLACE x, y, 2, 3 that HEARD, 4, 5 SLACK, 6, 7 DRIFT, 8, 9 POINT, "
                + "10 whether QUIET (1, 0), 11 COUNT, 12 REST, 13 whether FROZEN (1, 0).");
        int[][] dues = {{30, 0, 0, 0, -15, 0, 15, 0, 55, 10, 1, 0, 0, 0},
            {10, 0, 10, 0, 15, 0, 15, 0, 55, 10, 1, 4, 1, 0}, {0, 10, 0, 10, 0, 0, 0, 0, 10, 10, 1, 0, 0, 1}};
        HushWatch w = busy();
        for (int site = 0; site < 3; site++) {
            for (int what = 0; what < 14; what++) {
                Told.due("site(" + site + ", " + what + ")", w.site(site, what), dues[site][what]);
            }
        }
        HushWatch axes = Check.watch("site 3,40;site 5,60");
        axes.move(1, 2, -7);
        Told.due("point x: 8 and 2 times 2", axes.site(1, 8), 12);
        Told.due("point y: 100 less 2 times 7", axes.site(1, 9), 86);
        Told.due("point x of one that is still", axes.site(0, 8), 8);
        Told.due("point y of one that is still", axes.site(0, 9), 100);
        Told.promise(7, "NoSuchElementException: no such ones.");
        int[][] wrong = {{-1, 0}, {3, 0}, {8, 0}, {LEAST, 0}, {GREATEST, 0}, {0, -1}, {0, 14}, {2, LEAST},
            {2, GREATEST}, {-1, -1}};
        for (int[] call : wrong) {
            Told.due("site(" + call[0] + ", " + call[1] + ")", Check.siteThrows(w, call[0], call[1]), true);
            Told.due("no watch", Check.siteThrows(new HushWatch(), call[0], call[1]), true);
        }
        Told.due("no watch", Check.siteThrows(new HushWatch(), 0, 0), true);
        HushWatch eight = Check.watch(EIGHT);
        Told.due("the eighth", eight.site(7, 13), 0);
        Told.due("a ninth", Check.siteThrows(eight, 8, 13), true);
        Told.due("no status", w.status(0), 0);
    }

    private static void p08value() {
        Told.promise(8, "VALUE of X, Y (-1000000 .. 1000000 each) by the LAW.");
        Told.terms("VALUE of X, Y by the LAW: sum X and Y; square X X and Y Y; most the greater one of both "
                + "without signs; taxi both added up without signs.");
        int[][] points = {{1000000, 1000000}, {-1000000, -1000000}, {1000000, -1000000}, {-3, 2}, {2, -3}, {0, 0},
            {-1, 0}, {0, -1}, {1, 0}, {0, 1}};
        long[][] dues = {{2000000, -2000000, 0, -1, -1, 0, -1, -1, 1, 1},
            {2000000000000L, 2000000000000L, 2000000000000L, 13, 13, 0, 1, 1, 1, 1},
            {1000000, 1000000, 1000000, 3, 3, 0, 1, 1, 1, 1}, {2000000, 2000000, 2000000, 5, 5, 0, 1, 1, 1, 1}};
        String[] laws = {"sum", "square", "most", "taxi"};
        Told.promise(8, "HIDDEN: no WATCH, out of bounds.");
        int[][] wrong = {{1000001, 0}, {-1000001, 0}, {0, 1000001}, {0, -1000001}, {LEAST, 0}, {GREATEST, 0},
            {0, LEAST}, {0, GREATEST}, {1000001, 1000001}};
        for (int law = 0; law < 4; law++) {
            HushWatch w = Check.watch("law " + laws[law] + ";" + PAIR);
            for (int i = 0; i < points.length; i++) {
                Told.due(laws[law] + " of point " + i, w.value(points[i][0], points[i][1]), dues[law][i]);
            }
            for (int[] point : wrong) {
                Told.due(laws[law] + " of " + point[0] + "," + point[1], w.value(point[0], point[1]), HIDDEN);
            }
        }
        Told.due("no watch", new HushWatch().value(1, 1), HIDDEN);
    }

    private static void p09tells() {
        Told.promise(9, "TELLS: whether ALLOWED.");
        Told.terms("ALLOWED are X, Y with a VALUE below BOUND.");
        String[] watches = {"law sum;bound 10;", "law square;bound 25;", "law most;bound 5;", "law taxi;bound 5;"};
        int[][] below = {{9, 0, -1000000, 1000000}, {-4, 2, 0, 4}, {4, -4, -4, 0}, {-2, 2, 0, -4}};
        int[][] not = {{10, 0, 5, 5}, {3, -4, 5, 0}, {-5, 0, 0, 5}, {-2, 3, 5, 0}};
        for (int law = 0; law < 4; law++) {
            HushWatch w = Check.watch(watches[law] + "site 0,0;site 0,0");
            for (int i = 0; i < 4; i += 2) {
                Told.due(watches[law] + " below it", w.tells(below[law][i], below[law][i + 1]), true);
                Told.due(watches[law] + " not below it", w.tells(not[law][i], not[law][i + 1]), false);
            }
        }
        Told.promise(9, "False: no WATCH, out of bounds, too.");
        HushWatch w = Check.watch("bound 9999999;site 0,0;site 0,0");
        Told.due("the edge", w.tells(1000000, 1000000), true);
        Told.due("the edge", w.tells(-1000000, -1000000), true);
        int[][] wrong = {{1000001, 0}, {-1000001, 0}, {0, 1000001}, {0, -1000001}, {LEAST, 0}, {0, LEAST}};
        for (int[] point : wrong) {
            Told.due("tells(" + point[0] + ", " + point[1] + ")", w.tells(point[0], point[1]), false);
        }
        Told.due("no watch", new HushWatch().tells(-5, -5), false);
    }

    private static void p10all() {
        Told.promise(10, "SUM x, y (0, 1), TRUE x, y (2, 3), VALUE of SUM (4), of TRUE (5).");
        HushWatch w = Check.watch("bound 9999999;" + EIGHT);
        for (int site = 0; site < 8; site++) {
            for (int i = 0; i < 11; i++) {
                w.move(site, i < 10 ? 9999 : 9, i < 10 ? -9999 : -9);
            }
        }
        long[] dues = {0, 0, 799992, -799992, 0, 0};
        for (int what = 0; what < 6; what++) {
            Told.due("all at the edge, all(" + what + ")", w.all(what), dues[what]);
        }
        w.law(1);
        long[] then = {799992, -799992, 799992, -799992, 2 * 799992L * 799992L, 2 * 799992L * 799992L};
        for (int what = 0; what < 6; what++) {
            Told.due("heard, all(" + what + ")", w.all(what), then[what]);
        }
        Told.promise(10, "HIDDEN: no WATCH, no such what.");
        int[] wrong = {-1, 6, LEAST, GREATEST};
        for (int what : wrong) {
            Told.due("all(" + what + ")", w.all(what), HIDDEN);
        }
        for (int what = -1; what < 7; what++) {
            Told.due("no watch, all(" + what + ")", new HushWatch().all(what), HIDDEN);
        }
    }

    private static void p11moved() {
        Told.promise(11, "MOVED: how many MESSAGES.");
        Told.terms("A SITE is QUIET, if its POINT is ALLOWED;");
        Told.terms("Is it QUIET then, nothing is said.");
        String[] laws = {"law sum;bound 10;", "law square;bound 100;", "law most;bound 10;", "law taxi;bound 10;"};
        int[][] quiet = {{4, 0, -9999, 9999 - 1}, {4, 2, -4, -2}, {-4, 4, 4, -4}, {-2, 2, 0, -4}};
        int[][] not = {{5, 0, 0, 5}, {-4, 3, 3, -4}, {-5, 0, 0, 5}, {-2, -3, 5, 0}};
        for (int law = 0; law < 4; law++) {
            for (int i = 0; i < 4; i += 2) {
                HushWatch w = Check.watch(laws[law] + "site 0,0;site 0,0");
                Told.due(laws[law] + " its point below", w.move(0, quiet[law][i], quiet[law][i + 1]), 0);
                Told.due(laws[law] + " nobody spoke", w.most(1), 0);
                w.undo();
                Told.due(laws[law] + " its point at it", w.move(1, not[law][i], not[law][i + 1]), 5);
                Told.due(laws[law] + " it spoke", w.most(1), 1);
                Told.due(laws[law] + " balanced", w.most(2), 1);
            }
        }
        Told.terms("while the watch is ABOVE, if its DRIFT is 0, 0.");
        HushWatch above = Check.watch("bound 0;site 0,0;site 0,0");
        Told.due("quiet", above.most(6), 3);
        Told.due("its point would be allowed", above.move(0, 0, -1), 4);
        Told.due("not above any more", above.most(5), 0);
        Told.terms("By hand: a SITE is MOVED (each number -9999 .. 9999)");
        int[][] edges = {{9999, 0}, {-9999, 0}, {0, 9999}, {0, -9999}, {9999, -9999}, {-9999, 9999}};
        HushWatch w = Check.watch("bound 9999999;site 0,0;site 0,0");
        for (int[] edge : edges) {
            Told.due("move(0, " + edge[0] + ", " + edge[1] + ")", w.move(0, edge[0], edge[1]), 0);
        }
    }

    private static void p11noSuchSite() {
        Told.promise(11, "NONE: no such SITE (STATUS 0),");
        Told.terms(NOTHING_CHANGES);
        int[] wrong = {-1, 3, 8, LEAST, GREATEST};
        for (int site : wrong) {
            refused(ActBoundaryTest::busy, w -> w.move(site, 1, 1), NONE, 0, "move(" + site + ", 1, 1)");
        }
        refused(HushWatch::new, w -> w.move(0, 1, 1), NONE, 0, "no watch");
        Told.terms("of several the first;");
        refused(ActBoundaryTest::busy, w -> w.move(3, 10000, 0), NONE, 0, "no such site, out of bounds");
        refused(ActBoundaryTest::busy, w -> w.move(3, 0, 0), NONE, 0, "no such site, both 0");
        refused(HushWatch::new, w -> w.move(0, 0, 0), NONE, 0, "no watch, both 0");
        refused(ActBoundaryTest::busy, w -> w.move(2, 10000, 0), NONE, 1, "out of bounds, frozen");
        refused(ActBoundaryTest::busy, w -> w.move(2, 0, 0), NONE, 2, "frozen, both 0");
    }

    private static void p11outOfBounds() {
        Told.promise(11, "out of bounds, PLACE would be (1),");
        int[] wrong = {10000, -10000, 99999, LEAST, GREATEST};
        for (int far : wrong) {
            refused(ActBoundaryTest::busy, w -> w.move(0, far, 0), NONE, 1, "move(0, " + far + ", 0)");
            refused(ActBoundaryTest::busy, w -> w.move(0, 0, far), NONE, 1, "move(0, 0, " + far + ")");
            refused(ActBoundaryTest::busy, w -> w.move(1, 5, far), NONE, 1, "move(1, 5, " + far + ")");
        }
        Told.terms("A SITE has a PLACE x, y (-99999 .. 99999)");
        HushWatch edge = far();
        int[] places = {99999, -99999, -99999, 99999};
        for (int i = 0; i < 4; i++) {
            Told.due("the edge, site(" + i / 2 + ", " + i % 2 + ")", edge.site(i / 2, i % 2), places[i]);
        }
        int[][] beyond = {{0, 1, 0}, {0, 0, -1}, {1, -1, 0}, {1, 0, 1}, {0, 1, -1}, {0, -5, -1}, {0, 9999, 5},
            {1, 5, 1}, {1, -9999, -1}};
        for (int[] move : beyond) {
            refused(ActBoundaryTest::far, w -> w.move(move[0], move[1], move[2]), NONE, 1,
                    "move(" + move[0] + ", " + move[1] + ", " + move[2] + ")");
        }
        Told.due("back from the edge", edge.move(0, -1, 1), 0);
        Told.due("to the edge", edge.move(0, 1, 0), 0);
        edge.freeze(1);
        edge.move(1, -1, 0);
        Told.due("frozen, the place would be out: the first", edge.status(1), 1);
        Told.due("frozen, the place would be out: the first", edge.status(2), 0);
    }

    private static void p11itIsSo() {
        Told.promise(11, "both are 0, it is FROZEN (2).");
        refused(ActBoundaryTest::busy, w -> w.move(0, 0, 0), NONE, 2, "move(0, 0, 0)");
        refused(ActBoundaryTest::busy, w -> w.move(2, 1, 0), NONE, 2, "a frozen one");
        refused(ActBoundaryTest::busy, w -> w.move(2, 0, -9999), NONE, 2, "a frozen one");
        Told.due("one of both is 0", busy().move(0, 1, 0), 0);
        Told.due("one of both is 0", busy().move(0, 0, 1), 0);
        HushWatch w = busy();
        w.freeze(2);
        Told.due("not frozen any more", w.move(2, 1, 0), 0);
    }

    private static void p11asksPartners() {
        Told.terms("the next SITE by numbers (behind the last one the first) that is not FROZEN, and so on: "
                + "two MESSAGES each;");
        int[] all = {4, 5, 6, 7, 0, 1, 2, NONE};
        int[] some = {4, 6, 7, 1, 2, NONE, NONE, NONE};
        HushWatch w = Check.watch("bound 10;" + EIGHT);
        for (int i = 0; i < 8; i++) {
            Told.due("partner " + i, w.asked(3, 9999, 0, i), all[i]);
        }
        Told.due("messages: 1, 14, none unasked, 8", w.would(3, 9999, 0, 0), 23);
        w.freeze(5);
        w.freeze(0);
        for (int i = 0; i < 8; i++) {
            Told.due("two are frozen, partner " + i, w.asked(3, 9999, 0, i), some[i]);
        }
        Told.terms("a MESSAGE of each that was not asked (nor spoke), then one to each;");
        Told.due("messages: 1, 10, two unasked, 8", w.move(3, 9999, 0), 21);
        HushWatch alone = Check.watch(PAIR);
        alone.freeze(1);
        Told.due("all others are frozen: 1, none, one unasked, 2", alone.move(0, 5, 0), 4);
        Told.due("above: 1, none, one unasked, 2", Check.watch("bound 0;site 0,0;site 0,0").move(0, 1, 0), 4);
        HushWatch last = Check.watch(PAIR);
        Told.due("behind the last one the first", last.asked(1, 5, 0, 0), 0);
        Told.due("not itself", last.asked(1, 5, 0, 1), NONE);
    }

    private static void p11shares() {
        Told.terms("cut down (towards below), what is left over is 1 more for the first ones of them by numbers, "
                + "each axis by itself;");
        HushWatch w = Check.watch("law most;bound 20;site 0,0;site 0,0");
        Told.due("below 0 and above 0", w.move(1, -11, 11), 5);
        int[] dues = {-5, 6, -6, 5};
        int[] slacks = {-5, 6, 5, -6};
        Told.terms("(their SLACKS are more by what they have more), as many MESSAGES as they are, and that is all: "
                + "BALANCED.");
        for (int i = 0; i < 4; i++) {
            Told.due("drift " + i, w.site(i / 2, 6 + i % 2), dues[i]);
            Told.due("slack " + i, w.site(i / 2, 4 + i % 2), slacks[i]);
        }
        HushWatch other = Check.watch("law most;bound 30" + TRIPLE);
        Told.due("left over on y alone", other.move(2, -10, 11), 5);
        int[] others = {-5, 6, 0, 0, -5, 5};
        for (int i = 0; i < 6; i++) {
            Told.due("drift " + i, other.site(i / 2, 6 + i % 2), others[i]);
        }
        HushWatch three = Check.watch("bound 10" + TRIPLE);
        Told.due("two left over", three.move(1, 8, 0), 8);
        int[] threes = {3, 3, 2};
        for (int site = 0; site < 3; site++) {
            Told.due("drift of " + site, three.site(site, 6), threes[site]);
        }
        HushWatch again = Check.watch("bound 10" + TRIPLE);
        again.move(0, 2, 0);
        Told.due("what they had is shared, too: 2 and 4", again.move(2, 4, 0), 5);
        Told.due("3 each", again.site(0, 6) * 10 + again.site(2, 6), 33);
        Told.due("the place stays", again.site(0, 0), 2);
    }

    private static void p11allQuiet() {
        Told.terms("would all of them be QUIET so, they have these DRIFTS");
        HushWatch quiet = Check.watch("bound 13" + TRIPLE);
        Told.due("4, 3, 3: points of 12 are below 13", quiet.move(0, 10, 0), 8);
        Told.due("balanced", quiet.most(2) * 10 + quiet.most(3), 10);
        int[] slacks = {-6, 3, 3};
        for (int site = 0; site < 3; site++) {
            Told.due("slack of " + site, quiet.site(site, 4), slacks[site]);
        }
        Told.terms("Else, or ABOVE: all are HEARD:");
        Told.terms("PLACES HEARD are as they are, SLACKS 0;");
        HushWatch not = Check.watch("bound 12" + TRIPLE);
        Told.due("4, 3, 3: a point of 12 is not below 12", not.move(0, 10, 0), 8);
        Told.due("heard", not.most(2) * 10 + not.most(3), 1);
        Told.due("not above", not.most(5), 0);
        Told.due("not crossed", not.most(4), 0);
        Told.due("the place heard", not.site(0, 2), 10);
        Told.due("no slack", not.most(7), 0);
        // -11 over two is -5 and -6, on either axis: the second one's point is at 12.
        int[][] ways = {{-11, 0}, {0, -11}, {11, 0}, {0, 11}};
        for (int[] way : ways) {
            for (int site = 0; site < 2; site++) {
                HushWatch at = Check.watch("law most;bound 12;site 0,0;site 0,0");
                at.move(site, way[0], way[1]);
                Told.due("not below 12: heard", at.most(2) * 10 + at.most(3), 1);
                HushWatch below = Check.watch("law most;bound 13;site 0,0;site 0,0");
                below.move(site, way[0], way[1]);
                Told.due("below 13: balanced", below.most(2) * 10 + below.most(3), 10);
            }
        }
        quiet.move(1, 13, 0);
        Told.due("slacks are 0 when all are heard", quiet.most(7), 0);
        Told.due("and heard are all", quiet.most(10), 7);
    }

    private static void p11crossed() {
        Told.terms("is the watch ABOVE now, and was not, or the other way round, it is CROSSED once more.");
        HushWatch w = Check.watch(PAIR);
        int[] moves = {0, 9, 1, 0, 1, -2, 0, 1};
        int[] crossed = {0, 0, 1, 1, 1, 2, 2, 3};
        for (int i = 0; i < moves.length; i++) {
            if (moves[i] == 0) {
                w.sync();
            } else {
                w.move(0, moves[i], 0);
                w.sync();
            }
            Told.due("crossed, " + i, w.most(4), crossed[i]);
            Told.due("above, " + i, w.most(5), crossed[i] % 2);
        }
        Told.terms("The watch is ABOVE, if SUM is not ALLOWED (as it was when all were HEARD last).");
        Told.due("at first, 3 of 3", Check.watch("bound 3;site 1,0;site 1,1").most(5), 1);
        Told.due("at first, 3 of 4", Check.watch("bound 4;site 1,0;site 1,1").most(5), 0);
        Told.due("at first, not crossed", Check.watch("bound 3;site 1,0;site 1,1").most(4), 0);
        HushWatch edge = Check.watch(PAIR);
        edge.bound(0);
        Told.due("0 of 0", edge.most(5), 1);
        edge.bound(1);
        Told.due("0 of 1", edge.most(5), 0);
    }

    private static void p12freeze() {
        Told.promise(12, "FROZEN, or not any more: whether FROZEN then (1, 0).");
        HushWatch w = Check.watch(EIGHT);
        Told.terms("None is at first; one at least is not.");
        Told.due("at first", w.most(11), 0);
        for (int site = 0; site < 7; site++) {
            Told.due("freeze(" + site + ")", w.freeze(site), 1);
        }
        Told.promise(12, "none would be left that is not (2).");
        Told.due("the last one", w.freeze(7), NONE);
        Told.due("status(2)", w.status(2), 1);
        Told.due("seven are", w.most(11), 127);
        Told.due("one not any more", w.freeze(3), 0);
        Told.due("the last one then", w.freeze(7), 1);
        Told.due("but not the other one", w.freeze(3), NONE);
        Told.due("bits", w.most(11), 255 - 8);
        Supplier<HushWatch> one = () -> {
            HushWatch pair = Check.watch(PAIR);
            pair.freeze(0);
            return pair;
        };
        refused(one, pair -> pair.freeze(1), NONE, 2, "the other one of two");
        Told.due("the frozen one of two", one.get().freeze(0), 0);
        Told.promise(12, "NONE: no such SITE (STATUS 0),");
        int[] wrong = {-1, 3, 8, 32, LEAST, GREATEST};
        for (int site : wrong) {
            refused(ActBoundaryTest::busy, busy -> busy.freeze(site), NONE, 0, "freeze(" + site + ")");
        }
        refused(HushWatch::new, none -> none.freeze(0), NONE, 0, "no watch");
    }

    private static void p12frozenDrift() {
        Told.terms("A FROZEN SITE can't be MOVED and is not asked; its DRIFT stays as it is till all are HEARD "
                + "(it is HEARD, too).");
        HushWatch w = Check.watch("bound 10" + TRIPLE);
        w.move(1, 3, 0);
        w.freeze(1);
        Told.due("drift", w.site(1, 6), 3);
        Told.due("balanced with another", w.move(0, 5, 0), 5);
        Told.due("its drift stays", w.site(1, 6), 3);
        Told.due("move", w.move(1, 1, 0), NONE);
        Told.due("all are heard", w.move(0, 9, 0), 1 + 2 + 1 + 3);
        Told.due("it is heard, too", w.site(1, 2), 3);
        Told.due("no drift", w.site(1, 6), 0);
        Told.due("still frozen", w.site(1, 13), 1);
    }

    private static void p13sync() {
        Told.promise(13, "All are HEARD: how many MESSAGES.");
        Told.terms("all are HEARD (as above, all MESSAGES twice as many as there are SITES)");
        Told.due("two sites", Check.watch(PAIR).sync(), 4);
        Told.due("eight sites", Check.watch(EIGHT).sync(), 16);
        Told.due("some are frozen", busy().sync(), 6);
        HushWatch w = Check.watch(PAIR);
        w.sync();
        Told.due("nothing was moved since", w.sync(), 4);
        Told.due("each is an act", w.held(4), 2);
        Told.due("each was a hearing", w.most(3), 2);
        Told.terms("SUM: of all PLACES that were HEARD.");
        HushWatch sums = Check.watch("site 3,40;site 5,60");
        for (int i = 1; i <= 3; i++) {
            sums.move(0, 1, 2);
            Told.due("not yet heard, x", sums.all(0), 7 + i);
            Told.due("not yet heard, y", sums.all(1), 98 + 2 * i);
            sums.sync();
            Told.due("heard, x", sums.all(0), 8 + i);
            Told.due("heard, y", sums.all(1), 100 + 2 * i);
        }
        Told.due("nobody spoke", w.most(1), 0);
        Told.promise(13, "NONE: no WATCH (STATUS 0).");
        refused(HushWatch::new, HushWatch::sync, NONE, 0, "sync()");
    }

    private static void p14bound() {
        Told.promise(14, "BOUND is set: what it was.");
        HushWatch w = busy();
        Told.due("the greatest", w.bound(9999999), 100);
        Told.due("the least", w.bound(-9999999), 9999999);
        Told.due("what it was", w.bound(0), -9999999);
        Told.terms("BOUND is set, the LAW is set (then all are HEARD likewise)");
        HushWatch heard = busy();
        heard.bound(101);
        Told.due("slacks are 0", heard.most(7), 0);
        Told.due("all are heard", heard.most(10), 7);
        Told.due("sum", heard.all(0), 40);
        Told.due("messages", heard.log(0, 2), 6);
        Told.due("a hearing", heard.most(3), 1);
        HushWatch law = busy();
        law.law(3);
        Told.due("the law: all are heard", law.most(10), 7);
        Told.due("the law: messages", law.log(0, 2), 6);
        Told.due("the law: a hearing", law.most(3), 1);
        Told.promise(14, "HIDDEN: no WATCH (STATUS 0),");
        refused(HushWatch::new, none -> none.bound(1), HIDDEN, 0, "bound(1)");
        refused(HushWatch::new, none -> none.bound(10000000), HIDDEN, 0, "no watch and out of bounds");
        refused(HushWatch::new, none -> none.bound(0), HIDDEN, 0, "bound(0)");
        Told.promise(14, "out of bounds (1), it is so (2).");
        int[] wrong = {10000000, -10000000, LEAST, GREATEST};
        for (int bound : wrong) {
            refused(ActBoundaryTest::busy, busy -> busy.bound(bound), HIDDEN, 1, "bound(" + bound + ")");
        }
        refused(ActBoundaryTest::busy, busy -> busy.bound(100), HIDDEN, 2, "bound(100)");
    }

    private static void p15law() {
        Told.promise(15, "The LAW is set: what it was.");
        HushWatch w = Check.watch(PAIR);
        int[] laws = {3, 0, 1, 2, 0};
        int was = 0;
        for (int law : laws) {
            Told.due("law(" + law + ")", w.law(law), was);
            was = law;
        }
        Told.promise(15, "NONE: no WATCH (STATUS 0), out of bounds (1), it is so (2).");
        refused(HushWatch::new, none -> none.law(1), NONE, 0, "law(1)");
        refused(HushWatch::new, none -> none.law(0), NONE, 0, "law(0)");
        refused(HushWatch::new, none -> none.law(4), NONE, 0, "no watch and out of bounds");
        int[] wrong = {-1, 4, LEAST, GREATEST};
        for (int law : wrong) {
            refused(ActBoundaryTest::busy, busy -> busy.law(law), NONE, 1, "law(" + law + ")");
        }
        refused(ActBoundaryTest::busy, busy -> busy.law(0), NONE, 2, "law(0)");
    }

    private static void p16add() {
        Told.promise(16, "ADDED: how many MESSAGES.");
        Told.terms("GOAL less KNOWN through twice as many as there are SITES, cut");
        int[] goals = {1, 5, 6, 11, 12, 9999};
        int[] steps = {0, 0, 1, 1, 2, 1666};
        for (int i = 0; i < goals.length; i++) {
            Told.due("goal " + goals[i], Check.watch("goal " + goals[i] + TRIPLE).count(1), steps[i]);
        }
        Told.terms("as long as REST is STEP or more: REST is STEP less, a SIGNAL (a MESSAGE); is it that of as many "
                + "as there are SITES, the ROUND ends: twice as many MESSAGES, KNOWN is all COUNTS added up, all "
                + "RESTS and SIGNALS 0, ROUND one more, STEP anew");
        HushWatch w = Check.watch("goal 12" + TRIPLE);
        int[][] adds = {{0, 1, 0, 1, 0}, {0, 1, 1, 0, 1}, {1, 3, 1, 1, 2}, {0, 1, 0, 1, 2}, {2, 2, 7, 0, 0}};
        for (int[] add : adds) {
            Told.due("add(" + add[0] + ", " + add[1] + ")", w.add(add[0], add[1]), add[2]);
            Told.due("rest", w.site(add[0], 12), add[3]);
            Told.due("signals", w.count(2), add[4]);
        }
        int[] ended = {8, 0, 0, 1, 0, 8};
        for (int what = 0; what < 6; what++) {
            Told.due("the round ended: count(" + what + ")", w.count(what), ended[what]);
        }
        Told.due("all rests are 0", w.site(0, 12) + w.site(1, 12) + w.site(2, 12), 0);
        Told.terms("With STEP 0 that is told at once: a MESSAGE, KNOWN is k more.");
        Told.due("told at once", w.add(1, 3), 1);
        Told.due("known", w.count(0), 11);
        Told.due("no rest", w.site(1, 12), 0);
        Told.due("the count", w.site(1, 11), 6);
        Told.due("the same round", w.count(3), 1);
    }

    private static void p16roundEnds() {
        Told.terms("(that of all is told then, too: with STEP 0 none goes on)");
        HushWatch w = Check.watch("goal 12" + TRIPLE);
        Told.due("three signals and the end of the round, no more", w.add(0, 999), 3 + 6);
        Told.due("known", w.count(0), 999);
        Told.due("step, far beyond the goal", w.count(1), 0);
        Told.due("one round", w.count(3), 1);
        Told.due("no rest", w.site(0, 12), 0);
        HushWatch next = Check.watch("goal 9999;site 0,0;site 0,0");
        Told.due("step", next.count(1), 2499);
        int messages = 0;
        for (int i = 0; i < 5; i++) {
            messages += next.add(0, 999);
        }
        Told.due("a signal", messages, 1);
        Told.due("rest", next.site(0, 12), 4995 - 2499);
        next.add(1, 2498);
        Told.due("k is 999 at most", next.status(1), 1);
        Told.due("the round ends", next.add(0, 4), 1 + 4);
        Told.due("known", next.count(0), 4999);
        Told.due("what was over is no rest", next.site(0, 12), 0);
        Told.due("step anew", next.count(1), 1250);
        Told.terms("(0, if KNOWN is GOAL or more: GOAL is REACHED)");
        HushWatch goal = Check.watch("goal 2" + TRIPLE);
        goal.add(0, 1);
        Told.due("1 of 2", goal.count(4), 0);
        goal.add(0, 1);
        Told.due("2 of 2", goal.count(4), 1);
        Told.due("step", goal.count(1), 0);
        goal.undo();
        goal.add(0, 2);
        Told.due("3 of 2", goal.count(4), 1);
        Told.due("step", goal.count(1), 0);
    }

    private static void p16refused() {
        Told.promise(16, "NONE: no such SITE (STATUS 0),");
        int[] sites = {-1, 3, 8, LEAST, GREATEST};
        for (int site : sites) {
            refused(ActBoundaryTest::busy, w -> w.add(site, 1), NONE, 0, "add(" + site + ", 1)");
        }
        refused(HushWatch::new, w -> w.add(0, 1), NONE, 0, "no watch");
        refused(ActBoundaryTest::busy, w -> w.add(3, 0), NONE, 0, "no such site and k");
        refused(ActBoundaryTest::reached, w -> w.add(2, 1), NONE, 0, "no such site, reached");
        Told.promise(16, "k not 1 .. 999,");
        Told.terms("k (1 .. 999) is ADDED,");
        int[] ks = {0, -1, 1000, LEAST, GREATEST};
        for (int k : ks) {
            refused(ActBoundaryTest::busy, w -> w.add(0, k), NONE, 1, "add(0, " + k + ")");
        }
        refused(ActBoundaryTest::reached, w -> w.add(0, 1000), NONE, 1, "k and reached");
        Told.due("1", busy().add(0, 1), 0);
        Told.due("999", busy().add(0, 999), 2 + 6);
        Told.promise(16, "GOAL is REACHED (2).");
        refused(ActBoundaryTest::reached, w -> w.add(0, 1), NONE, 2, "add(0, 1)");
        refused(ActBoundaryTest::reached, w -> w.add(1, 999), NONE, 2, "add(1, 999)");
        // A goal is 9999 at most and ends all adding, so the largest count that can be is far below 99,999.
        Told.promise(16, "COUNT would be above 99,999 (1),");
        HushWatch w = Check.watch("goal 9999;site 0,0;site 0,0");
        int adds = 0;
        while (w.count(4) == 0 && adds < 100) {
            Told.due("add(0, 999)", w.add(0, 999) >= 0, true);
            adds++;
        }
        Told.due("adds till the goal is reached", adds, 11);
        Told.due("the count", w.site(0, 11), 10989);
        Told.due("none was out of bounds", w.status(1), 0);
    }

    private static void p17goal() {
        Told.promise(17, "The GOAL is set: what it was.");
        Told.terms("the GOAL is set (1 .. 9999: COUNTS, RESTS, KNOWN, ROUND, SIGNALS are 0 then).");
        HushWatch w = Check.watch("goal 12" + TRIPLE);
        w.add(0, 7);
        w.add(2, 1);
        Told.due("the greatest", w.goal(9999), 12);
        for (int what = 0; what < 6; what++) {
            Told.due("count(" + what + ")", w.count(what), what == 1 ? 1666 : 0);
        }
        w.add(1, 999);
        w.add(1, 999);
        Told.due("the same again", w.goal(9999), 9999);
        Told.due("counts are 0", w.site(1, 11), 0);
        Told.due("rests are 0", w.site(1, 12), 0);
        Told.due("signals are 0", w.count(2), 0);
        Told.due("the least", w.goal(1), 9999);
        Told.due("no messages", w.log(0, 2), 0);
        Told.promise(17, "NONE: no WATCH (STATUS 0), out of bounds (1).");
        int[] wrong = {0, -1, 10000, LEAST, GREATEST};
        for (int goal : wrong) {
            refused(ActBoundaryTest::busy, busy -> busy.goal(goal), NONE, 1, "goal(" + goal + ")");
            refused(HushWatch::new, none -> none.goal(goal), NONE, 0, "no watch, goal(" + goal + ")");
        }
        refused(HushWatch::new, none -> none.goal(5), NONE, 0, "no watch");
    }

    private static void p18count() {
        Told.promise(18, "KNOWN (0), STEP (1), SIGNALS (2), ROUND (3), whether REACHED (4; 1, 0), "
                + "all COUNTS added up (5).");
        HushWatch w = Check.watch("goal 24" + TRIPLE);
        w.add(0, 9);
        w.add(1, 3);
        int[] dues = {0, 4, 2, 0, 0, 12};
        for (int what = 0; what < 6; what++) {
            Told.due("count(" + what + ")", w.count(what), dues[what]);
        }
        w.add(1, 2);
        int[] then = {14, 1, 0, 1, 0, 14};
        for (int what = 0; what < 6; what++) {
            Told.due("then count(" + what + ")", w.count(what), then[what]);
        }
        Told.promise(18, "NONE: no WATCH, no such what.");
        int[] wrong = {-1, 6, LEAST, GREATEST};
        for (int what : wrong) {
            Told.due("count(" + what + ")", w.count(what), NONE);
        }
        for (int what = -1; what < 7; what++) {
            Told.due("no watch, count(" + what + ")", new HushWatch().count(what), NONE);
        }
    }

    /** The draws by numbers without bounds, so that nothing of this goes round by itself. */
    private static final class Draws {
        private static final BigInteger ROUND = BigInteger.ONE.shiftLeft(64);
        private BigInteger x;

        Draws(long seed) {
            x = BigInteger.valueOf(seed).mod(ROUND);
        }

        int of(int j) {
            x = x.multiply(new BigInteger("6364136223846793005")).add(new BigInteger("1442695040888963407")).mod(ROUND);
            return x.shiftRight(33).mod(BigInteger.valueOf(j)).intValue();
        }
    }

    /** What years would do, by hand: the messages; a refused call counts in the status here. */
    private static int yearsByHand(HushWatch w, int n, long seed) {
        Draws draws = new Draws(seed);
        int messages = 0;
        for (int i = 0; i < n; i++) {
            int what = draws.of(8);
            int answer;
            if (what < 6) {
                int site = draws.of(w.rule(3));
                int x = draws.of(21) - 10;
                answer = w.move(site, x, draws.of(21) - 10);
            } else if (what == 6) {
                int site = draws.of(w.rule(3));
                answer = w.add(site, draws.of(9) + 1);
            } else {
                answer = w.sync();
            }
            messages += Math.max(answer, 0);
        }
        return messages;
    }

    private static void p19years() {
        Told.promise(19, "YEARS: MESSAGES in all.");
        Told.terms("x, at first the seed, becomes x times 6364136223846793005 and 1442695040888963407 "
                + "(64 bits, going round); a draw of j: (x shifted right by 33, without sign) modulo j.");
        long[] seeds = {0, 1, -1, 7, Long.MIN_VALUE, Long.MAX_VALUE, 1L << 33, -6364136223846793005L};
        String[] texts = {"law most;bound 60;goal 9;site 0,0;site 3,-3", "bound 30;" + EIGHT,
            "law taxi;bound 90" + TRIPLE};
        for (long seed : seeds) {
            for (String text : texts) {
                HushWatch w = Check.watch(text);
                HushWatch hand = Check.watch(text);
                int messages = yearsByHand(hand, 40, seed);
                Told.due(text + ", seed " + seed, w.years(40, seed), messages);
                Told.same(text + ", seed " + seed, Told.seen(w), Told.seen(hand));
            }
        }
    }

    private static void p19yearsLeft() {
        Told.terms("Each is an ACT; what can't be is left (no STATUS).");
        int refused = 0;
        for (long seed = 0; seed < 8; seed++) {
            HushWatch w = reached();
            HushWatch hand = reached();
            w.freeze(0);
            hand.freeze(0);
            int messages = yearsByHand(hand, 40, seed);
            Told.due("seed " + seed, w.years(40, seed), messages);
            Told.same("seed " + seed, Told.seen(w), Told.seen(hand));
            Told.due("no status", w.status(0) + w.status(1) + w.status(2), 0);
            refused += hand.status(2);
        }
        Told.due("some can't be", refused > 40, true);
        HushWatch edge = far();
        HushWatch hand = far();
        int messages = yearsByHand(hand, 40, 5);
        Told.due("places at the edge", edge.years(40, 5), messages);
        Told.due("some would be out of bounds", hand.status(1) > 0, true);
        Told.same("places at the edge", Told.seen(edge), Told.seen(hand));
        Told.due("no status", edge.status(1), 0);
    }

    private static void p19yearsRefused() {
        Told.promise(19, "NONE: no WATCH, out of bounds.");
        Told.terms("YEARS by a seed: n (1 .. 40) times:");
        int[] wrong = {0, -1, 41, LEAST, GREATEST};
        for (int n : wrong) {
            refused(ActBoundaryTest::busy, w -> w.years(n, 7), NONE, -1, "years(" + n + ", 7)");
        }
        refused(HushWatch::new, w -> w.years(1, 7), NONE, -1, "no watch");
        refused(HushWatch::new, w -> w.years(0, 7), NONE, -1, "no watch and out of bounds");
        int[] right = {1, 2, 39, 40};
        for (int n : right) {
            HushWatch w = busy();
            HushWatch hand = busy();
            Told.due("years(" + n + ", 3)", w.years(n, 3), yearsByHand(hand, n, 3));
            Told.same("years(" + n + ", 3)", Told.seen(w), Told.seen(hand));
        }
    }

    private static void p20status() {
        Told.promise(20, "STATUS.");
        Told.terms("STATUS: how many ACTS were refused as there was no such one, no WATCH (0), out of bounds, "
                + "a PLACE, a COUNT (99999) would be (1), it is so (2); of several the first; not UNDONE.");
        HushWatch w = busy();
        int[] dues = {3, 4, 5};
        for (int i = 0; i < 3; i++) {
            w.freeze(3);
        }
        for (int i = 0; i < 4; i++) {
            w.bound(10000000);
        }
        for (int i = 0; i < 5; i++) {
            w.law(0);
        }
        w.image();
        w.undo();
        w.undo();
        w.back();
        for (int what = 0; what < 3; what++) {
            Told.due("status(" + what + ")", w.status(what), dues[what]);
        }
        Told.promise(20, "NONE: no such what.");
        int[] wrong = {-1, 3, LEAST, GREATEST};
        for (int what : wrong) {
            Told.due("status(" + what + ")", w.status(what), NONE);
            Told.due("no watch, status(" + what + ")", new HushWatch().status(what), NONE);
        }
    }

    /** Of questions and of what is no act by hand, none counts in the status. */
    private static void p20noStatus() {
        Told.promise(20, "STATUS.");
        HushWatch w = busy();
        Check.script(w, "move 9,1,1;sync");
        Told.due("perform", w.perform(0), 0);
        Told.due("perform", w.perform(1), NONE);
        Told.due("run", w.run(0, 0), 0);
        Told.due("years", w.years(41, 1), NONE);
        Told.due("would", w.would(9, 1, 1, 0), NONE);
        Told.due("asked", w.asked(9, 1, 1, 0), NONE);
        Told.due("walk", w.walk(9, 1, 1, 1, 0), NONE);
        Told.due("partner", w.partner(9, 1, 1), NONE);
        Told.due("limit", w.limit(9, 1, 1), NONE);
        Told.due("race", w.race(0, 0, 0), NONE);
        Told.due("needs", w.needs(9, 1, 1), HIDDEN);
        Told.due("goes", w.goes(9, 0), NONE);
        Told.due("text", w.text(0), NONE);
        Told.due("feed", w.end(-1), false);
        HushWatch none = new HushWatch();
        Told.due("undo", none.undo(), NONE);
        Told.due("image", none.image(), NONE);
        Told.due("back", none.back(), NONE);
        for (int what = 0; what < 3; what++) {
            Told.due("status(" + what + ")", w.status(what), 0);
            Told.due("no watch, status(" + what + ")", none.status(what), 0);
        }
    }

    private static void p21undo() {
        Told.promise(21, "The latest ACT is UNDONE: how many still can be.");
        Told.terms("the latest 40 can be UNDONE one by one (the LOG, too).");
        int[] acts = {1, 39, 40, 41, 79, 80, 81, 100};
        for (int done : acts) {
            HushWatch w = Check.watch(PAIR);
            for (int i = 1; i <= done; i++) {
                w.goal(i);
            }
            int can = Math.min(done, 40);
            Told.due(done + " acts, held(4)", w.held(4), can);
            for (int left = can - 1; left >= 0; left--) {
                Told.due(done + " acts, undo()", w.undo(), left);
            }
            Told.promise(21, "NONE: none.");
            Told.due(done + " acts, no more", w.undo(), NONE);
            Told.due(done + " acts, the goal", w.rule(2), done > 40 ? done - 40 : 100);
            Told.due(done + " acts, the log", w.held(3), Math.min(60, Math.max(0, done - 40)));
            Told.due(done + " acts, the log", w.log(0, 1), done > 40 ? done - 40 : HIDDEN);
        }
        Told.due("a new watch", Check.watch(PAIR).undo(), NONE);
        Told.due("no watch", new HushWatch().undo(), NONE);
    }

    /** Each sort of act is undone whole: all is seen as ahead of it. */
    private static void p21undoEach() {
        Told.promise(21, "The latest ACT is UNDONE: how many still can be.");
        List<ToLongFunction<HushWatch>> acts = List.of(w -> w.move(0, 1, 1),
                w -> w.move(0, 12, 0), w -> w.move(1, 9999, 9999), w -> w.freeze(1), w -> w.freeze(2),
                HushWatch::sync, w -> w.bound(7), w -> w.law(1), w -> w.add(0, 5), w -> w.add(0, 999),
                w -> w.goal(20), w -> w.goal(9));
        for (int i = 0; i < acts.size(); i++) {
            HushWatch w = busy();
            String before = Told.seen(w);
            Told.due("act " + i, acts.get(i).applyAsLong(w) >= 0, true);
            Told.due("act " + i + " changes something", Told.seen(w).equals(before), false);
            Told.due("act " + i + " undone", w.undo(), 3);
            Told.same("act " + i + " undone", Told.seen(w), before);
        }
        HushWatch w = busy();
        w.sync();
        w.undo();
        w.goal(50);
        Told.due("an act behind an undone one", w.undo(), 3);
        Told.same("an act behind an undone one", Told.seen(w), Told.seen(busy()));
    }

    private static void p22log() {
        Told.promise(22, "The LOG, the latest (i 0), the one ahead of it (1) ..: 0 sort, 1 number, 2 MESSAGES.");
        Told.terms("The LOG: of each ACT its sort (0 MOVED, 1 HEARD, 2 BOUND, 3 LAW, 4 ADDED, 5 GOAL, "
                + "6 FROZEN or not), a number (the SITE; HEARD: NONE; BOUND as told; LAW 0 .. 3; GOAL as told), "
                + "how many MESSAGES it took: the latest 60.");
        HushWatch each = busy();
        each.freeze(2);
        each.sync();
        each.bound(-9999999);
        each.law(3);
        each.goal(9999);
        int[][] dues = {{5, 9999, 0}, {3, 3, 6}, {2, -9999999, 6}, {1, NONE, 6}, {6, 2, 0}, {6, 2, 0}, {4, 1, 1},
            {0, 0, 5}};
        for (int i = 0; i < dues.length; i++) {
            for (int what = 0; what < 3; what++) {
                Told.due("log(" + i + ", " + what + ")", each.log(i, what), dues[i][what]);
            }
        }
        Told.promise(22, "HIDDEN: no such ones.");
        int[][] wrong = {{8, 0}, {-1, 0}, {60, 0}, {LEAST, 0}, {GREATEST, 0}, {0, -1}, {0, 3}, {7, 3}, {0, LEAST},
            {0, GREATEST}};
        for (int[] call : wrong) {
            Told.due("log(" + call[0] + ", " + call[1] + ")", each.log(call[0], call[1]), HIDDEN);
            Told.due("no watch", new HushWatch().log(call[0], call[1]), HIDDEN);
        }
        Told.due("no act yet", Check.watch(PAIR).log(0, 0), HIDDEN);
    }

    private static void p22latestSixty() {
        Told.promise(22, "HIDDEN: no such ones.");
        int[] acts = {59, 60, 61, 99, 100, 101, 160, 161, 250};
        for (int done : acts) {
            HushWatch w = Check.watch(PAIR);
            for (int i = 1; i <= done; i++) {
                w.goal(i);
            }
            int held = Math.min(done, 60);
            Told.due(done + " acts, held(3)", w.held(3), held);
            for (int i = 0; i < held; i++) {
                Told.due(done + " acts, log(" + i + ", 1)", w.log(i, 1), done - i);
            }
            Told.due(done + " acts, behind the first", w.log(held, 1), HIDDEN);
            for (int i = 0; i < 40; i++) {
                w.undo();
            }
            int left = done - 40;
            Told.due(done + " acts, 40 undone", w.log(0, 1), left);
            int first = Math.min(left, 60) - 1;
            Told.due(done + " acts, 40 undone, held(3)", w.held(3), first + 1);
            Told.due(done + " acts, 40 undone, as it was then", w.log(first, 1), left - first);
        }
    }

    public static void main(String[] args) {
        p06rule();
        p07site();
        p08value();
        p09tells();
        p10all();
        p11moved();
        p11noSuchSite();
        p11outOfBounds();
        p11itIsSo();
        p11asksPartners();
        p11shares();
        p11allQuiet();
        p11crossed();
        p12freeze();
        p12frozenDrift();
        p13sync();
        p14bound();
        p15law();
        p16add();
        p16roundEnds();
        p16refused();
        p17goal();
        p18count();
        p19years();
        p19yearsLeft();
        p19yearsRefused();
        p20status();
        p20noStatus();
        p21undo();
        p21undoEach();
        p22log();
        p22latestSixty();
        Told.finish("ActBoundaryTest", 6, 22);
    }
}
