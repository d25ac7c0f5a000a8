/**
 * The document's terms (its parts 1 to 4, ahead of the promises), from the first word to the last, each with
 * an example worked out by hand. No word of them is left without one.
 */
public final class TermsTest {
    private static final int NONE = HushWatch.NONE;
    private static final int HIDDEN = HushWatch.HIDDEN;
    private static final int WATCH = 0;
    private static final int SCRIPT = 1;
    private static final String PAIR = ";site 0,0;site 0,0";
    private static final String FOUR = ";site 0,0;site 0,0;site 0,0;site 0,0";
    private static final String TWELVE = "sync;".repeat(11) + "sync";

    /** What site(..) tells of all sites from one number on, site by site. */
    private static void sitesDue(HushWatch w, int what, int how, int... dues) {
        for (int i = 0; i < dues.length; i++) {
            Told.due("site(" + i / how + ", " + (what + i % how) + ")", w.site(i / how, what + i % how), dues[i]);
        }
    }

    private static void countsDue(HushWatch w, int known, int step, int signals, int round) {
        int[] dues = {known, step, signals, round};
        for (int what = 0; what < 4; what++) {
            Told.due("count(" + what + ")", w.count(what), dues[what]);
        }
    }

    private static void logDue(HushWatch w, int sort, int number, int messages) {
        int[] dues = {sort, number, messages};
        for (int what = 0; what < 3; what++) {
            Told.due("log(0, " + what + ")", w.log(0, what), dues[what]);
        }
    }

    private static void rulesDue(HushWatch w, int... dues) {
        for (int what = 0; what < dues.length; what++) {
            Told.due("rule(" + what + ")", w.rule(what), dues[what]);
        }
    }

    private static void watchesAsTexts() {
        Told.terms("A WATCH is a TEXT: CLAUSES with ; between, each a WORD and what is its:");
        HushWatch w = Check.watch("site 1,2;law most;goal 7;site -3,4;bound -50;site 5,-6");
        rulesDue(w, 2, -50, 7, 3);
        Told.fault(WATCH, "site 1,2 site 3,4", 9);
        Told.terms("law (sum, square, most or taxi; sum without), bound (a number -9999999 .. 9999999; 1000), "
                + "goal (1 .. 9999; 100), in any order, each once at most,");
        rulesDue(Check.watch("site 1,2;site 3,4"), 0, 1000, 100, 2);
        String[] laws = {"sum", "square", "most", "taxi"};
        for (int law = 0; law < 4; law++) {
            rulesDue(Check.watch("goal 9999;bound 9999999;law " + laws[law] + PAIR), law, 9999999, 9999, 2);
            rulesDue(Check.watch("law " + laws[law] + ";bound -9999999;goal 1" + PAIR), law, -9999999, 1, 2);
        }
        Told.fault(WATCH, "goal 0" + PAIR, 5);
        Told.fault(WATCH, "goal 10000" + PAIR, 5);
        Told.fault(WATCH, "goal 5;goal 6" + PAIR, 7);
        Told.fault(WATCH, "bound 5" + PAIR + ";bound 5", 26);
        Told.terms("site (two numbers -999 .. 999 with , between; 2 .. 8 SITES, numbered as they come), anywhere.");
        sitesDue(w, 0, 2, 1, 2, -3, 4, 5, -6);
        sitesDue(Check.watch("site -999,999;law sum;site 999,-999"), 0, 2, -999, 999, 999, -999);
        Told.fault(WATCH, "site 1000,0;site 0,0", 5);
        Told.fault(WATCH, "site 0,-1000;site 0,0", 7);
        Told.due("eight", Check.watch("site 0,0;site 0,0" + FOUR + PAIR).held(0), 8);
        Told.fault(WATCH, "site 0,0;site 0,0" + FOUR + PAIR + ";site 0,0", 72);
        Told.fault(WATCH, "site 0,0", 8);
    }

    private static void scriptsAsTexts() {
        Told.terms("SCRIPTS (4 at most) are TEXTS: STEPS with ; between, 1 to 12: move (SITE, two numbers), add (SITE, "
                + "a number), bound (a number), law (a WORD as above), sync, goal (a number), freeze (SITE). "
                + "Numbers between are separated by , .");
        HushWatch w = new HushWatch();
        Told.due("a script", Check.script(w, "move 1,-2,3;add 4,5;bound -6;law taxi;sync;goal 7;freeze 8"), 0);
        int[][] steps = {{0, 1, -2, 3}, {1, 4, 5, HIDDEN}, {2, -6, HIDDEN, HIDDEN}, {3, 3, HIDDEN, HIDDEN},
            {4, HIDDEN, HIDDEN, HIDDEN}, {5, 7, HIDDEN, HIDDEN}, {6, 8, HIDDEN, HIDDEN}};
        for (int i = 0; i < steps.length; i++) {
            for (int what = 0; what < 4; what++) {
                Told.due("step(0, " + i + ", " + what + ")", w.step(0, i, what), steps[i][what]);
            }
        }
        Told.due("there is no eighth", w.step(0, 7, 0), HIDDEN);
        Told.due("twelve", Check.script(w, TWELVE), 1);
        Told.due("one", Check.script(w, "sync"), 2);
        Told.due("the fourth", Check.script(w, "goal 1"), 3);
        Told.due("a fifth", Check.script(w, "goal 2"), NONE);
        Told.fault(SCRIPT, "", 0);
        Told.fault(SCRIPT, "sync sync", 5);
        Told.fault(SCRIPT, "move 1 2 3", 7);
        Told.fault(SCRIPT, "add 1;2", 5);
        Told.fault(SCRIPT, "site 1,2", 0);
    }

    private static void wordsAndNumbers() {
        Told.terms("A WORD is letters (a to z), as many as stand one behind another; a number is a - or none and one to "
                + "seven digits, as many as stand one behind another.");
        Told.fault(SCRIPT, "syncsync", 0);
        Told.fault(SCRIPT, "synC", 0);
        Told.fault(SCRIPT, "syncC", 4);
        Told.fault(SCRIPT, "sync{", 4);
        Told.fault(SCRIPT, "sync`", 4);
        Told.fault(SCRIPT, "goal +5", 5);
        Told.fault(SCRIPT, "goal 5:", 6);
        Told.fault(SCRIPT, "goal 5/", 6);
        HushWatch w = new HushWatch();
        Check.script(w, "bound-0000007;move0,-9999999,9999999;goal 00");
        Told.due("seven digits behind a -", w.step(0, 0, 1), -7);
        Told.due("the least", w.step(0, 1, 2), -9999999);
        Told.due("the greatest", w.step(0, 1, 3), 9999999);
        Told.due("two digits of 0", w.step(0, 2, 1), 0);
        Told.terms("Blanks (32) may stand ahead of and behind all these, and ; and ,, not behind a -.");
        Told.due("blanks", Check.script(w, "  move  1 ,  -2  ,3  ;  law  taxi  "), 1);
        Told.due("behind blanks", w.step(1, 0, 2), -2);
        Told.fault(SCRIPT, "bound - 2", 6);
        Told.fault(SCRIPT, "mo ve 1,2,3", 0);
        Told.fault(SCRIPT, "goal 1 2", 7);
        Told.fault(SCRIPT, "goal" + (char) 9 + "1", 4);
        Told.fault(SCRIPT, "goal" + (char) 160 + "1", 4);
    }

    private static void faults() {
        Told.terms("FAULT: where the first part begins that can't be (the length, if the TEXT ends too early, or with "
                + "fewer than two SITES):");
        Told.fault(WATCH, "law sum;site 1,2;", 17);
        Told.fault(WATCH, "site 1,2;site 3", 15);
        Told.fault(WATCH, "site 1,2;site", 13);
        Told.fault(WATCH, "law ", 4);
        Told.fault(WATCH, "law sum;site 1,2  ", 18);
        Told.fault(WATCH, "site 1,2;site 3,4;lw x;bound 12345678", 18);
        Told.terms("a WORD that is none of these, or was there already (but site), a ninth site;");
        Told.fault(WATCH, " sites 1,2", 1);
        Told.fault(WATCH, "law sums" + PAIR, 4);
        Told.fault(WATCH, "law sum; law taxi" + PAIR, 9);
        Told.fault(WATCH, "site 1,2;site 1,2;site 1,2", NONE);
        Told.fault(WATCH, "site 0,0;site 0,0" + FOUR + PAIR + "; site", 73);
        Told.terms("a number that is none (a - without a digit, eight digits or more), out of its bounds (in a SCRIPT any "
                + "number of seven digits may stand);");
        Told.fault(WATCH, "bound -;site 0,0", 6);
        Told.fault(WATCH, "bound --1" + PAIR, 6);
        Told.fault(WATCH, "bound 00000001" + PAIR, 6);
        Told.fault(WATCH, "bound -123456789" + PAIR, 6);
        Told.fault(SCRIPT, "goal 12345678", 5);
        Told.fault(SCRIPT, "goal -9999999;freeze 9999999;add -1,0;move 9,9999999,-9999999", NONE);
        Told.terms("any other part; the ; ahead of a 13th STEP. (What a STEP tells that can't be is no FAULT.)");
        Told.fault(WATCH, ";site 0,0", 0);
        Told.fault(WATCH, "site 0,0;;site 0,0", 9);
        Told.fault(WATCH, "site 0,0,0", 8);
        Told.fault(WATCH, "bound x", 6);
        Told.fault(WATCH, "law 1", 4);
        Told.fault(SCRIPT, "5", 0);
        Told.fault(SCRIPT, TWELVE + " ;sync", 60);
        Told.fault(SCRIPT, TWELVE + ",", 59);
        Told.fault(SCRIPT, TWELVE + "  ", NONE);
        HushWatch w = Check.watch("site 0,0;site 0,0");
        Told.due("it can be told", Check.script(w, "freeze 7;add 0,0;goal 0"), 0);
        Told.due("it can't be done", w.run(0, 0), 0);
    }

    private static void places() {
        Told.terms("==== 2. A SITE has a PLACE x, y (-99999 .. 99999), a PLACE that was HEARD last (as told at first), "
                + "a SLACK x, y (0 at first).");
        HushWatch w = Check.watch("site 3,-4;site 5,6");
        sitesDue(w, 0, 6, 3, -4, 3, -4, 0, 0, 5, 6, 5, 6, 0, 0);
        Told.terms("SUM: of all PLACES that were HEARD.");
        Told.due("x", w.all(0), 8);
        Told.due("y", w.all(1), 2);
        w.move(0, 10, 1);
        Told.due("as they were heard, x", w.all(0), 8);
        Told.terms("DRIFT of a SITE: its PLACE less that HEARD, and its SLACK.");
        sitesDue(w, 6, 2, 10, 1, 0, 0);
        Told.terms("POINT of a SITE: SUM and as many times its DRIFT as there are SITES.");
        sitesDue(w, 8, 2, 8 + 2 * 10, 2 + 2 * 1, 8, 2);
        HushWatch slack = Check.watch("bound 100;site 0,0;site 10,0;site 0,10");
        slack.move(0, 30, 0);
        Told.due("30 less 0, and -15", slack.site(0, 6), slack.site(0, 0) - slack.site(0, 2) + slack.site(0, 4));
        Told.due("10 less 10, and 15", slack.site(1, 6), 15);
        Told.due("10 and three times 15", slack.site(1, 8), 55);
    }

    private static void laws() {
        Told.terms("VALUE of X, Y by the LAW: sum X and Y; square X X and Y Y; most the greater one of both without signs; "
                + "taxi both added up without signs.");
        int[] dues = {-4, 58, 7, 10};
        for (int law = 0; law < 4; law++) {
            HushWatch w = Check.watch("bound 5" + PAIR);
            w.law(law);
            Told.due("law " + law + " of 3, -7", w.value(3, -7), dues[law]);
            Told.due("law " + law + " of -7, 3", w.value(-7, 3), dues[law]);
        }
        Told.terms("ALLOWED are X, Y with a VALUE below BOUND.");
        int[] bounds = {-4, 58, 7, 10};
        for (int law = 0; law < 4; law++) {
            HushWatch w = Check.watch("bound " + bounds[law] + PAIR);
            w.law(law);
            Told.due("law " + law + ", at it", w.tells(3, -7), false);
            w.bound(bounds[law] + 1);
            Told.due("law " + law + ", below it", w.tells(3, -7), true);
        }
        Told.terms("The watch is ABOVE, if SUM is not ALLOWED (as it was when all were HEARD last).");
        HushWatch w = Check.watch("bound 7;site 3,0;site 0,4");
        Told.due("7 is not below 7", w.most(5), 1);
        w.move(1, 0, -1);
        Told.due("6 is", w.most(5), 0);
        w.freeze(0);
        w.move(1, 0, 0);
        Told.due("still as it was", w.most(5), 0);
    }

    private static void quiet() {
        Told.terms("A SITE is QUIET, if its POINT is ALLOWED; while the watch is ABOVE, if its DRIFT is 0, 0.");
        HushWatch w = Check.watch("law taxi;bound 16" + FOUR);
        Told.due("a point of 12", w.would(0, -2, 1, 2), 0);
        Told.due("a point of 16", w.would(0, -2, 2, 2), 1);
        Told.due("all of them", w.most(6), 15);
        HushWatch above = Check.watch("bound -9" + FOUR);
        Told.due("above", above.most(5), 1);
        Told.due("all of them", above.most(6), 15);
        Told.due("a drift on y alone, its point allowed", above.would(2, 0, -9, 2), 2);
        Told.terms("A SITE is MOVED (its PLACE is more by two numbers). Is it QUIET then, nothing is said.");
        Told.due("no message", w.move(1, -1, 2), 0);
        sitesDue(w, 0, 2, 0, 0, -1, 2);
        Told.due("no message", w.move(1, 2, -4), 0);
        sitesDue(w, 0, 4, 0, 0, 0, 0, 1, -2, 0, 0);
        Told.due("nobody spoke", w.most(0) + w.most(1), 0);
    }

    private static void balanced() {
        Told.terms("Else it SPEAKS (a MESSAGE); is the watch not ABOVE, it asks partners, one behind the other: the next SITE "
                + "by numbers (behind the last one the first) that is not FROZEN, and so on: two MESSAGES each;");
        HushWatch w = Check.watch("law taxi;bound 16" + FOUR);
        int[] asked = {3, 0, NONE};
        for (int i = 0; i < 3; i++) {
            Told.due("asked(.. " + i + ")", w.asked(2, -5, 4, i), asked[i]);
        }
        Told.terms("behind each of these: all asked and it share their DRIFTS: added up by x, by y, through how many they "
                + "are, cut down (towards below), what is left over is 1 more for the first ones of them by numbers, "
                + "each axis by itself;");
        // With 3 alone: -2,2 and -3,2, a value of 16. With 0 too: -1,2 and -2,1 and -2,1, values of 12.
        Told.due("1, twice 2, 3", w.move(2, -5, 4), 8);
        sitesDue(w, 6, 2, -1, 2, 0, 0, -2, 1, -2, 1);
        Told.terms("would all of them be QUIET so, they have these DRIFTS (their SLACKS are more by what they have more), as "
                + "many MESSAGES as they are, and that is all: BALANCED.");
        sitesDue(w, 4, 2, -1, 2, 0, 0, 3, -3, -2, 1);
        sitesDue(w, 0, 2, 0, 0, 0, 0, -5, 4, 0, 0);
        sitesDue(w, 2, 2, 0, 0, 0, 0, 0, 0, 0, 0);
        int[] dues = {8, 1, 1, 0, 0, 0, 15, 13, 0, 0, 11, 0};
        for (int what = 0; what < dues.length; what++) {
            Told.due("most(" + what + ")", w.most(what), dues[what]);
        }
        w.freeze(3);
        Told.due("0 is the next now", w.asked(2, -3, 0, 0), 0);
        Told.due("then 1", w.asked(2, -3, 0, 1), 1);
        // -1,2 and -5,1 of 0 and 2: -3,2. With 1: -2,1 each.
        Told.due("1, twice 2, 3", w.move(2, -3, 0), 8);
        sitesDue(w, 6, 2, -2, 1, -2, 1, -2, 1, -2, 1);
        sitesDue(w, 4, 2, -2, 1, -2, 1, 6, -3, -2, 1);
    }

    private static void allHeard() {
        Told.terms("Else, or ABOVE: all are HEARD: a MESSAGE of each that was not asked (nor spoke), then one to each; "
                + "PLACES HEARD are as they are, SLACKS 0;");
        HushWatch w = Check.watch("law taxi;bound 16" + FOUR);
        w.move(2, -5, 4);
        w.freeze(1);
        // -1, -10 and -2 of 0, 2 and 3: -4, -4, -5, too far for any.
        Told.due("1, twice 2, 1 of the frozen one, 4", w.move(2, -8, 0), 10);
        sitesDue(w, 2, 4, 0, 0, 0, 0, 0, 0, 0, 0, -13, 4, 0, 0, 0, 0, 0, 0);
        Told.due("SUM x", w.all(0), -13);
        Told.due("SUM y", w.all(1), 4);
        Told.terms("is the watch ABOVE now, and was not, or the other way round, it is CROSSED once more.");
        Told.due("above", w.most(5), 1);
        Told.due("crossed", w.most(4), 1);
        Told.due("1, none, 3, 4", w.move(0, 0, 1), 8);
        Told.due("still above, not crossed", w.most(4), 1);
        Told.due("nobody asked", w.would(2, 9, 0, 1), 0);
        Told.due("1, none, 3, 4", w.move(2, 9, 0), 8);
        Told.due("not above", w.most(5), 0);
        Told.due("crossed", w.most(4), 2);
        Told.due("heard three times", w.most(3), 3);
    }

    private static void counts() {
        Told.terms("COUNTS: each SITE has a COUNT (0 at first) and a REST (0). KNOWN is 0, ROUND 0, SIGNALS 0 at first; STEP: "
                + "GOAL less KNOWN through twice as many as there are SITES, cut (0, if KNOWN is GOAL or more: GOAL is "
                + "REACHED).");
        HushWatch w = Check.watch("goal 30" + PAIR);
        countsDue(w, 0, 7, 0, 0);
        sitesDue(w, 11, 2, 0, 0, 0, 0);
        Told.terms("k is ADDED to a SITE: COUNT is more.");
        Told.due("no signal", w.add(0, 6), 0);
        Told.terms("Else REST is k more; as long as REST is STEP or more: REST is STEP less, a SIGNAL (a MESSAGE);");
        sitesDue(w, 11, 2, 6, 6, 0, 0);
        Told.due("a signal", w.add(1, 9), 1);
        sitesDue(w, 11, 2, 6, 6, 9, 2);
        countsDue(w, 0, 7, 1, 0);
        Told.terms("is it that of as many as there are SITES, the ROUND ends: twice as many MESSAGES, KNOWN is all COUNTS "
                + "added up, all RESTS and SIGNALS 0, ROUND one more, STEP anew");
        Told.due("a signal, and 4", w.add(0, 1), 5);
        countsDue(w, 16, 3, 0, 1);
        sitesDue(w, 11, 2, 7, 0, 9, 0);
        Told.due("a signal", w.add(1, 5), 1);
        Told.terms("(that of all is told then, too: with STEP 0 none goes on).");
        Told.due("a signal, and 4, what is over is told, too", w.add(0, 6), 5);
        countsDue(w, 27, 0, 0, 2);
        sitesDue(w, 11, 2, 13, 0, 14, 0);
        Told.terms("With STEP 0 that is told at once: a MESSAGE, KNOWN is k more.");
        Told.due("told at once", w.add(0, 2), 1);
        countsDue(w, 29, 0, 0, 2);
        Told.due("not reached", w.count(4), 0);
        Told.due("told at once", w.add(1, 3), 1);
        countsDue(w, 32, 0, 0, 2);
        Told.due("reached", w.count(4), 1);
        Told.due("no more", w.add(1, 1), NONE);
        sitesDue(w, 11, 2, 15, 0, 17, 0);
    }

    private static void frozen() {
        Told.terms("A FROZEN SITE can't be MOVED and is not asked; its DRIFT stays as it is till all are HEARD (it is HEARD, "
                + "too). None is at first; one at least is not.");
        HushWatch w = Check.watch("bound 10;site 0,0;site 0,0;site 0,0");
        Told.due("none", w.most(11), 0);
        w.move(1, 2, 1);
        w.freeze(1);
        Told.due("not moved", w.move(1, -1, 0), NONE);
        Told.due("not asked", w.asked(0, 4, 0, 0), 2);
        Told.due("2 and 2", w.move(0, 4, 0), 5);
        sitesDue(w, 6, 2, 2, 0, 2, 1, 2, 0);
        w.sync();
        sitesDue(w, 2, 6, 4, 0, 0, 0, 0, 0, 2, 1, 0, 0, 0, 0);
        Told.due("frozen all the same", w.most(11), 2);
        w.freeze(0);
        Told.due("one at least is not", w.freeze(2), NONE);
        Told.due("0 and 1", w.most(11), 3);
    }

    private static void byHand() {
        Told.terms("By hand: a SITE is MOVED (each number -9999 .. 9999), is FROZEN, or not any more, all are HEARD (as above, "
                + "all MESSAGES twice as many as there are SITES), BOUND is set, the LAW is set (then all are HEARD "
                + "likewise), k (1 .. 999) is ADDED, the GOAL is set (1 .. 9999: COUNTS, RESTS, KNOWN, ROUND, SIGNALS "
                + "are 0 then).");
        HushWatch w = Check.watch("bound 9999999;site 0,0;site 0,0;site 0,0");
        Told.due("moved", w.move(0, -9999, 9999), 0);
        Told.terms("The LOG: of each ACT its sort (0 MOVED, 1 HEARD, 2 BOUND, 3 LAW, 4 ADDED, 5 GOAL, 6 FROZEN or not), a "
                + "number (the SITE; HEARD: NONE; BOUND as told; LAW 0 .. 3; GOAL as told), how many MESSAGES it took: "
                + "the latest 60.");
        logDue(w, 0, 0, 0);
        Told.due("frozen", w.freeze(2), 1);
        logDue(w, 6, 2, 0);
        Told.due("not any more", w.freeze(2), 0);
        logDue(w, 6, 2, 0);
        Told.due("heard", w.sync(), 6);
        logDue(w, 1, NONE, 6);
        Told.due("bound", w.bound(-5), 9999999);
        logDue(w, 2, -5, 6);
        Told.due("above now", w.most(5), 1);
        Told.due("law", w.law(3), 0);
        logDue(w, 3, 3, 6);
        Told.due("heard three times", w.most(3), 3);
        Told.due("added: 3 signals of 16, the round ends", w.add(1, 999), 9);
        logDue(w, 4, 1, 9);
        Told.due("known", w.count(0), 999);
        Told.due("goal", w.goal(9999), 100);
        logDue(w, 5, 9999, 0);
        countsDue(w, 0, 1666, 0, 0);
        sitesDue(w, 11, 2, 0, 0, 0, 0, 0, 0);
        Told.due("moved while above", w.move(2, 9999, -9999), 6);
        logDue(w, 0, 2, 6);
        Told.due("nine acts", w.held(3), 9);
        Told.due("all messages", w.most(0), 6 * 3 + 9 + 6);
        for (int i = 0; i < 52; i++) {
            w.sync();
        }
        Told.due("the latest 60 of 61", w.held(3), 60);
        Told.due("the first is gone: frozen", w.log(59, 0), 6);
        Told.due("no line behind it", w.log(60, 0), HIDDEN);
    }

    private static void undoneAndRefused() {
        Told.terms("All these are ACTS: the latest 40 can be UNDONE one by one (the LOG, too).");
        HushWatch all = acted(8);
        for (int left = 7; left >= 0; left--) {
            Told.due("of eight acts", all.undo(), left);
        }
        Told.due("none", all.undo(), NONE);
        Told.same("as at first", Told.seen(all), Told.seen(acted(0)));
        for (int which = 0; which < 8; which++) {
            HushWatch w = acted(which + 1);
            Told.due("act " + which + " changes something", Told.seen(w).equals(Told.seen(acted(which))), false);
            w.undo();
            Told.same("act " + which + " is undone", Told.seen(w), Told.seen(acted(which)));
        }
        HushWatch many = Check.watch("site 0,0;site 0,0");
        for (int i = 0; i < 41; i++) {
            many.sync();
        }
        for (int left = 39; left >= 0; left--) {
            Told.due("of 41 acts", many.undo(), left);
        }
        Told.due("the first one stands", many.undo(), NONE);
        Told.due("its messages", many.most(0), 4);
        Told.terms("STATUS: how many ACTS were refused as there was no such one, no WATCH (0), out of bounds, a PLACE, a COUNT "
                + "(99999) would be (1), it is so (2); of several the first; not UNDONE.");
        many.freeze(2);
        many.move(0, 10000, 0);
        many.law(0);
        many.bound(1000);
        many.add(9, 1000);
        many.undo();
        int[] dues = {2, 1, 2};
        for (int what = 0; what < 3; what++) {
            Told.due("status(" + what + ")", many.status(what), dues[what]);
        }
        HushWatch none = new HushWatch();
        none.goal(0);
        Told.due("no watch, the first", none.status(0), 1);
        Told.due("and no other", none.status(1), 0);
    }

    /** A watch behind the first acts of these eight. */
    private static HushWatch acted(int acts) {
        HushWatch w = Check.watch("bound 10;site 0,0;site 0,0;site 0,0;goal 30");
        for (int which = 0; which < acts; which++) {
            act(w, which);
        }
        return w;
    }

    /** One act of each sort, and a move that is shared. */
    private static void act(HushWatch w, int which) {
        switch (which) {
            case 0: w.move(0, 1, 2); break;
            case 1: w.move(1, 5, 0); break;
            case 2: w.freeze(2); break;
            case 3: w.add(1, 16); break;
            case 4: w.goal(77); break;
            case 5: w.law(1); break;
            case 6: w.bound(5); break;
            default: w.sync(); break;
        }
    }

    private static void askedApart() {
        Told.terms("==== 3. (Apart, from as it is now.) TRUE: the sum of all PLACES as they are.");
        HushWatch w = Check.watch("law taxi;bound 16;goal 30" + FOUR);
        w.move(2, -5, 4);
        w.move(1, 1, 0);
        String before = Told.seen(w);
        Told.due("x", w.all(2), -4);
        Told.due("y", w.all(3), 4);
        Told.terms("LIMIT of a SITE by a way: how often (200 at most) it can be MOVED so without that it SPEAKS (or would be out "
                + "of bounds).");
        Told.due("1,0 till 3,0", w.limit(1, 1, 0), 2);
        Told.due("1,0 till -2,0, not -5,0", w.limit(1, -3, 0), 1);
        Told.due("400 times", Check.watch("bound 9999999" + PAIR).limit(0, -1, 1), 200);
        Told.due("ten times to 99990", Check.watch("bound 9999999" + PAIR).limit(0, 9999, 0), 10);
        Told.terms("WOULD a SITE be MOVED so: MESSAGES; how many partners are asked; what comes of it (0 nothing, 1 BALANCED, "
                + "2 all HEARD).");
        // -1,2 -2,1 -2,1 of 0, 2 and 3, and 1,0 of 1.
        wouldDue(w, 3, 1, 0, 0, 0, 0);
        wouldDue(w, 1, 3, 0, 5, 1, 1);
        // 9,0 with 2: 4,1 and 3,0. With 3 too: 2,1 and 2,1 and 1,0.
        wouldDue(w, 1, 8, 0, 8, 2, 1);
        wouldDue(w, 0, -9, 0, 11, 3, 2);
        Told.terms("PARTNER of a SITE by a way: the one other SITE, not FROZEN, that, asked alone, would do (that with the least "
                + "number), were it MOVED so (it must not be QUIET then).");
        // 4,0 with 0: 2,1 and 1,1; so 0 does, though 2 is asked first and does, too.
        Told.due("0 does", w.partner(1, 3, 0), 0);
        Told.due("2 is asked first", w.asked(1, 3, 0, 0), 2);
        Told.due("quiet", w.partner(1, 1, 0), NONE);
        Told.due("none does", w.partner(1, 30, 0), NONE);
        Told.same("nothing changes", Told.seen(w), before);
    }

    private static void wouldDue(HushWatch w, int site, int x, int y, int... dues) {
        for (int what = 0; what < 3; what++) {
            Told.due("would(" + site + ", " + x + ", " + y + ", " + what + ")", w.would(site, x, y, what), dues[what]);
        }
    }

    private static void askedApartMore() {
        Told.terms("SPAN of a SITE: the least and the greatest k by which it is QUIET with k more on an axis (-200 .. 200; as long "
                + "as all between k and 0 are).");
        HushWatch w = Check.watch("law taxi;bound 16;goal 30" + FOUR);
        w.move(2, -2, 1);
        int[] spans = {0, 4, -2, 0};
        for (int i = 0; i < 4; i++) {
            Told.due("axis " + i / 2, w.span(2, i / 2, i % 2 == 1), spans[i]);
        }
        HushWatch sum = Check.watch("bound 5" + PAIR);
        Told.due("the least", sum.span(1, 0, false), -200);
        Told.due("4 is below 5, 6 is not", sum.span(1, 0, true), 2);
        Told.terms("GOES: how many times 1 must be ADDED to one SITE alone till GOAL is REACHED; how many MESSAGES that takes.");
        // Rounds of four signals by 3, by 2 and by 1: 12, 8 and 4, with 12 messages each; 6 are told at once.
        goesDue(w);
        Told.terms("RACE of a way: all SITES that are not FROZEN are MOVED so, by turns by numbers, 200 times each at most, till "
                + "one SPEAKS or one can't be MOVED: who SPEAKS first, behind how many moves.");
        // 2 is at -2,1, the others at 0,0: it speaks by its third move, they would by their fourth.
        Told.due("2 speaks", w.race(0, -1, 0), 2);
        Told.due("moves", w.race(0, -1, 1), 4 + 4 + 3);
        w.freeze(0);
        Told.due("moves of three", w.race(0, -1, 1), 3 + 3 + 2);
        w.freeze(2);
        Told.due("1 is the first now", w.race(0, -1, 0), 1);
        Told.due("moves of two", w.race(0, -1, 1), 2 + 2 + 2 + 1);
        Told.due("nobody", sum.race(-1, 0, 0), NONE);
        Told.due("one can't be moved any more", sum.race(-9999, 0, 1), NONE);
    }

    /** The same by adding, on an object of its own. */
    private static void goesDue(HushWatch asked) {
        HushWatch w = Check.watch("law taxi;bound 16;goal 30" + FOUR);
        int times = 0;
        int messages = 0;
        while (w.count(4) == 0 && times < 100) {
            messages += w.add(3, 1);
            times++;
        }
        Told.due("times", asked.goes(3, 0), 30);
        Told.due("30 of them", times, 30);
        Told.due("messages", asked.goes(3, 1), messages);
        Told.due("messages of these", messages, 12 + 12 + 12 + 6);
    }

    private static void askedApartLast() {
        Told.terms("NEEDS: the least BOUND by which a SITE, MOVED so, would be QUIET, the watch not ABOVE.");
        HushWatch w = Check.watch("law square;bound 9999;site 1,0;site 0,2;site 0,0");
        Told.due("1,2 and three times 3,-4: 10,-10", w.needs(1, 3, -4), 201);
        w.law(0);
        Told.due("0", w.needs(1, 3, -4), 1);
        w.bound(-5);
        Told.due("above, taken as not", w.needs(1, 3, -4), 1);
        Told.terms("FAIR: the SITE whose POINT has the greatest VALUE; that with the longest SLACK (both axes without signs, added "
                + "up) (of several the lowest, both).");
        HushWatch fair = Check.watch("law taxi;bound 16" + FOUR);
        Told.due("all the same", fair.fair(0) + fair.fair(1), 0);
        fair.move(2, -5, 4);
        // Slacks -1,2 0,0 3,-3 -2,1; points of 12 but that of 1.
        Told.due("0, 2 and 3 are the same", fair.fair(0), 0);
        Told.due("3 and 3", fair.fair(1), 2);
        fair.move(0, 1, -2);
        Told.due("2 and 3 are the same", fair.fair(0), 2);
        Told.terms("TELLS of a PLACE: whether it is ALLOWED.");
        Told.due("15 is", fair.tells(-8, 7), true);
        Told.due("16 is not", fair.tells(-8, -8), false);
        Told.terms("SPELL: bytes of 'site K at X,Y' or, if it is not QUIET, '.. at X,Y!' (all with a blank between words, numbers "
                + "with a - if below 0): how many, the i-th.");
        Told.same("site 2", Check.spelled(fair, 2), "site 2 at -5,4");
        Told.same("site 0", Check.spelled(fair, 0), "site 0 at 1,-2");
        Told.due("how many", fair.spell(2, NONE), 14);
        Told.due("a ,", fair.spell(2, 12), ',');
    }

    private static void scriptsDone() {
        Told.terms("RUN of a SCRIPT: behind how many STEPS the first is that can't be; MESSAGES of those ahead.");
        HushWatch w = Check.watch("bound 10" + PAIR);
        Check.script(w, "move 0,5,0;sync;freeze 1;move 1,1,0;sync");
        Check.script(w, "move 0,5,0;law square;bound 200;goal 3;add 1,2");
        Told.due("the fourth can't be", w.run(0, 0), 3);
        Told.due("5 and 4 and none", w.run(0, 1), 9);
        Told.due("all can be", w.run(1, 0), NONE);
        Told.due("5 and 4 and 4 and none and 1", w.run(1, 1), 14);
        Told.due("nothing was done", w.held(3), 0);
        Told.terms("DO: its STEPS as ACTS, up to there (no STATUS).");
        Told.due("three", w.perform(0), 3);
        Told.due("three acts", w.held(4), 3);
        Told.due("their messages", w.most(0), 9);
        Told.due("no status", w.status(0) + w.status(1) + w.status(2), 0);
        logDue(w, 6, 1, 0);
    }

    private static void years() {
        Told.terms("==== 4. YEARS by a seed: n (1 .. 40) times: a draw of 8: 0 to 5: a draw of SITES, of 21, of 21: MOVED by these "
                + "less 10; 6: a draw of SITES, of 9 and 1: ADDED; 7: all are HEARD. Each is an ACT; what can't be is left "
                + "(no STATUS).");
        Told.terms("x, at first the seed, becomes x times 6364136223846793005 and 1442695040888963407 (64 bits, going round); a "
                + "draw of j: (x shifted right by 33, without sign) modulo j.");
        for (long seed = -3; seed < 30; seed++) {
            HushWatch drawn = Check.watch("law most;bound 70;goal 60;site 1,1;site -1,2;site 0,0");
            HushWatch byHand = Check.watch("law most;bound 70;goal 60;site 1,1;site -1,2;site 0,0");
            drawn.freeze(1);
            byHand.freeze(1);
            int messages = drawnByHand(byHand, seed * 1000003, 40);
            Told.due("seed " + seed, drawn.years(40, seed * 1000003), messages);
            Told.same("seed " + seed, Told.seen(drawn), Told.seen(byHand));
            Told.due("no status", drawn.status(0) + drawn.status(1) + drawn.status(2), 0);
        }
    }

    private static long x;

    private static int draw(int of) {
        x = x * 6364136223846793005L + 1442695040888963407L;
        return (int) ((x >>> 33) % of);
    }

    private static int drawnByHand(HushWatch w, long seed, int n) {
        x = seed;
        int messages = 0;
        for (int i = 0; i < n; i++) {
            int what = draw(8);
            int site = what < 7 ? draw(3) : NONE;
            int answer;
            if (what < 6) {
                int right = draw(21) - 10;
                answer = w.move(site, right, draw(21) - 10);
            } else {
                answer = what == 6 ? w.add(site, draw(9) + 1) : w.sync();
            }
            messages += Math.max(answer, 0);
        }
        return messages;
    }

    private static void imagesAndRefusals() {
        Told.terms("An IMAGE keeps all that ACTS change; BACK: it is so again (no ACT can be UNDONE then).");
        for (int which = 0; which < 8; which++) {
            HushWatch w = acted(which);
            // Behind back no act can be undone: it is called once ahead, so that all that is seen can be the same.
            w.image();
            w.back();
            String before = Told.seen(w);
            act(w, which);
            Told.due("act " + which + " can be undone", w.held(4), 1);
            w.back();
            Told.same("back from act " + which, Told.seen(w), before);
            Told.due("none can be undone", w.undo(), NONE);
        }
        HushWatch w = acted(0);
        Told.terms("What is refused answers as told and changes nothing but STATUS.");
        String before = Told.seen(w);
        Told.due("NONE", w.move(3, 1, 1), NONE);
        Told.due("HIDDEN", w.bound(10), HIDDEN);
        Told.due("its status", w.status(0) + 10 * w.status(2), 11);
        Told.same("nothing else", Told.seen(w), before);
        Told.terms("The constants: `NONE = -1`: None; refused.");
        Told.due("NONE", HushWatch.NONE, -1);
        Told.terms("`HIDDEN = -100000000`: Not told.");
        Told.due("HIDDEN", HushWatch.HIDDEN, -100000000);
    }

    public static void main(String[] args) {
        watchesAsTexts();
        scriptsAsTexts();
        wordsAndNumbers();
        faults();
        places();
        laws();
        quiet();
        balanced();
        allHeard();
        counts();
        frozen();
        byHand();
        undoneAndRefused();
        askedApart();
        askedApartMore();
        askedApartLast();
        scriptsDone();
        years();
        imagesAndRefusals();
        Told.finish("TermsTest", Told.TERMS, Told.TERMS);
    }
}
