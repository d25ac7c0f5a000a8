import java.util.ArrayList;
import java.util.List;

/**
 * The boundary cases of texts: those of the tape, of watches and scripts as texts (promises 1 to 5). Each
 * test names the document's sentence that would be broken.
 */
public final class TextBoundaryTest {
    private static final int NONE = HushWatch.NONE;
    private static final int HIDDEN = HushWatch.HIDDEN;
    private static final int WATCH = 0;
    private static final int SCRIPT = 1;
    private static final String TWO = "site 0,0;site 0,0";
    private static final String TWELVE = "sync;".repeat(11) + "sync";
    private static final int[] FAR = {Integer.MIN_VALUE, Integer.MAX_VALUE};

    private static void p01noWatch() {
        Told.promise(1, "No WATCH.");
        for (int what = 0; what < 5; what++) {
            Told.due("held(" + what + ")", new HushWatch().held(what), 0);
        }
        HushWatch w = new HushWatch();
        for (int what = 0; what < 12; what++) {
            Told.due("most(" + what + ")", w.most(what), HIDDEN);
            Told.due("rule(" + what + ")", w.rule(what), HIDDEN);
            Told.due("all(" + what + ")", w.all(what), HIDDEN);
            Told.due("count(" + what + ")", w.count(what), NONE);
        }
        for (int what = 0; what < 3; what++) {
            Told.due("status(" + what + ")", w.status(what), 0);
        }
        Told.due("undo()", w.undo(), NONE);
        Told.due("back()", w.back(), NONE);
        Told.terms("`NONE = -1`: None; refused.");
        Told.due("NONE", HushWatch.NONE, -1);
        Told.terms("`HIDDEN = -100000000`: Not told.");
        Told.due("HIDDEN", HushWatch.HIDDEN, -100000000);
    }

    private static void p01usedOften() {
        Told.terms("An object is used for at most 512 calls after it has been made");
        HushWatch w = Check.watch(TWO);
        int calls = 3;
        for (; calls < 510; calls++) {
            Told.due("call " + calls, w.sync(), 4);
        }
        Told.due("the 511th call", w.most(0), 4 * 507);
        Told.due("the 512th call", w.most(3), 507);
    }

    private static void p02feed() {
        Told.promise(2, "Twenty bytes more come to the TAPE");
        HushWatch w = new HushWatch();
        Told.due("bytes of 1", w.feed(0x01010101, 0x01010101, 0x01010101, 0x01010101, 0x01010101), 20);
        Told.due("bytes of 255", w.feed(-1, -1, -1, -1, -1), 40);
        Told.due("bytes of 128", w.feed(0x80808080, 0x80808080, 0x80808080, 0x80808080, 0x80808080), 60);
        Told.promise(2, "(of each number the highest first;");
        HushWatch order = new HushWatch();
        // site 1,2;site 3,-4 ;
        order.feed(0x73697465, 0x20312c32, 0x3b736974, 0x6520332c, 0x2d34203b);
        Told.due("its last byte is a ;", order.fault(WATCH), 20);
        order.end(19);
        Told.due("text(0)", order.text(WATCH), 2);
        Told.due("site(1, 1)", order.site(1, 1), -4);
    }

    /** A text of 19 bytes comes whole, wherever among the twenty the byte of 0 stands. */
    private static void p02zeros() {
        Told.promise(2, "bytes of 0 are left out): how many it has.");
        String text = "site 1,2 ;site 3,-4";
        for (int zero = 0; zero < 20; zero++) {
            HushWatch w = new HushWatch();
            Check.tape(w, text.substring(0, zero) + (char) 0 + text.substring(zero));
            Told.due("bytes, a 0 at " + zero, w.held(2), 19);
            Told.due("text(0), a 0 at " + zero, w.text(WATCH), 2);
            Told.due("site(1, 1), a 0 at " + zero, w.site(1, 1), -4);
        }
        HushWatch w = new HushWatch();
        Told.due("nothing but 0", w.feed(0, 0, 0, 0, 0), 0);
        Told.due("one byte", w.feed(0, 0, 0x00200000, 0, 0), 1);
        Told.due("nothing but 0", w.feed(0, 0, 0, 0, 0), 1);
        Told.due("each number's lowest byte", w.feed(1, 1, 1, 1, 1), 6);
        Told.due("each number's highest byte", w.feed(1 << 24, 1 << 24, 1 << 24, 1 << 24, 1 << 24), 11);
        Told.due("each number's second byte", w.feed(1 << 16, 1 << 16, 1 << 16, 1 << 16, 1 << 16), 16);
        Told.due("each number's third byte", w.feed(1 << 8, 1 << 8, 1 << 8, 1 << 8, 1 << 8), 21);
    }

    private static void p02full() {
        Told.promise(2, "NONE: more than 320.");
        HushWatch w = new HushWatch();
        for (int i = 1; i <= 16; i++) {
            Told.due("twenty more", w.feed(-1, -1, -1, -1, -1), 20 * i);
        }
        Told.due("the 321st", w.feed(0, 0, 1, 0, 0), NONE);
        Told.due("it is as it was", w.held(2), 320);
        Told.due("no more come", w.feed(0, 0, 0, 0, 0), 320);
        w.end(301);
        Told.due("20 behind 301", w.feed(-1, -1, -1, -1, -1), NONE);
        Told.due("none of them came", w.held(2), 301);
        Told.due("19 behind 301", w.feed(-1, -1, 0x00ffffff, -1, -1), 320);
        w.end(300);
        Told.due("20 behind 300", w.feed(-1, -1, -1, -1, -1), 320);
        w.end(316);
        Told.due("4 behind 316", w.feed(0, 0, 0, -1, 0), 320);
        Told.due("the text of a full tape", w.fault(WATCH), 0);
        Told.due("refused, it stays", w.text(WATCH), NONE);
        Told.due("refused, it stays", w.held(2), 320);
    }

    private static void p02fullTexts() {
        Told.promise(2, "NONE: more than 320.");
        String blanks = " ".repeat(320 - TWO.length());
        HushWatch w = new HushWatch();
        Check.tape(w, TWO + blanks);
        Told.due("held(2)", w.held(2), 320);
        Told.due("a watch of 320 bytes", w.text(WATCH), 2);
        Check.tape(w, " ".repeat(320 - TWELVE.length()) + TWELVE);
        Told.due("held(2)", w.held(2), 320);
        Told.due("a script of 320 bytes", w.text(SCRIPT), 0);
        Told.due("its last step", w.step(0, 11, 0), 4);
    }

    private static void p03end() {
        Told.promise(3, "The TAPE has its first n bytes alone.");
        HushWatch w = new HushWatch();
        Told.due("an empty one, 0", w.end(0), true);
        Check.tape(w, TWO + ";x");
        Told.due("all of them", w.end(19), true);
        Told.due("held(2)", w.held(2), 19);
        Told.due("one fewer", w.end(18), true);
        Told.due("held(2)", w.held(2), 18);
        Told.due("its end is a ;", w.fault(WATCH), 18);
        Told.due("one fewer", w.end(17), true);
        Told.due("the first ones stay", w.fault(WATCH), NONE);
        Told.due("what comes, comes behind them", w.feed(0x20, 0, 0, 0, 0x3b), 19);
        Told.due("what comes, comes behind them", w.fault(WATCH), 19);
        Told.due("none", w.end(0), true);
        Told.due("held(2)", w.held(2), 0);
    }

    /** A cut text reads as if it had come so, whatever stood behind it. */
    private static void p03endCuts() {
        Told.promise(3, "The TAPE has its first n bytes alone.");
        String[] texts = {"site 1 , 2 ; site -3,-4;law most;bound -1234567;goal 12",
            "move 1,-2, 3 ;law sum;add 1,2 ; sync"};
        for (int sort = 0; sort < 2; sort++) {
            for (int n = 0; n <= texts[sort].length(); n++) {
                HushWatch cut = new HushWatch();
                Check.tape(cut, texts[sort]);
                cut.end(n);
                HushWatch anew = new HushWatch();
                Check.tape(anew, texts[sort].substring(0, n));
                Told.due("fault of its first " + n, cut.fault(sort), anew.fault(sort));
                Told.due("text of its first " + n, cut.text(sort), anew.text(sort));
            }
        }
        HushWatch w = new HushWatch();
        Check.tape(w, "site 1,2;site 3,4");
        w.end(6);
        Told.due("the , is gone", w.fault(WATCH), 6);
        Check.tape(w, "move 1,2,3");
        w.end(8);
        Told.due("the second , is gone", w.fault(SCRIPT), 8);
        Check.tape(w, "goal 123");
        w.end(6);
        w.text(SCRIPT);
        Told.due("the digits behind are gone", w.step(0, 0, 1), 1);
    }

    private static void p03endRefused() {
        Told.promise(3, "False: n.");
        HushWatch empty = new HushWatch();
        Told.due("an empty one, 1", empty.end(1), false);
        Told.due("an empty one, -1", empty.end(-1), false);
        HushWatch w = new HushWatch();
        Check.tape(w, TWO);
        int[] wrong = {-1, 18, 320, 321, FAR[0], FAR[1]};
        for (int n : wrong) {
            Told.due("end(" + n + ")", w.end(n), false);
            Told.due("it is as it was", w.held(2), 17);
        }
        Told.due("it is as it was", w.fault(WATCH), NONE);
        Check.tape(w, "x".repeat(320));
        Told.due("a full one, 321", w.end(321), false);
        Told.due("a full one, 320", w.end(320), true);
        w.end(100);
        Told.due("what was cut is gone", w.end(101), false);
    }

    private static void p04fault() {
        Told.promise(4, "The FAULT of the TAPE as a WATCH (0), a SCRIPT (1).");
        Told.fault(WATCH, "sync", 0);
        Told.fault(SCRIPT, "sync", NONE);
        Told.fault(SCRIPT, TWO, 0);
        Told.promise(4, "NONE: none.");
        Told.fault(WATCH, TWO, NONE);
        HushWatch w = new HushWatch();
        Check.tape(w, TWO);
        w.fault(WATCH);
        Told.due("asked twice", w.fault(WATCH), NONE);
        Told.due("the tape stays", w.held(2), 17);
        Told.due("it is not the watch by that", w.held(0), 0);
        Told.promise(4, "-2: no such sort.");
        int[] wrong = {-1, -2, 2, 3, FAR[0], FAR[1]};
        for (int sort : wrong) {
            Told.due("a good text, sort " + sort, w.fault(sort), -2);
            Told.due("an empty tape, sort " + sort, new HushWatch().fault(sort), -2);
        }
    }

    private static void p04faultWithFullScripts() {
        Told.promise(4, "NONE: none.");
        HushWatch w = new HushWatch();
        for (int i = 0; i < 4; i++) {
            Check.script(w, "sync");
        }
        Check.tape(w, "sync");
        Told.due("a fifth script is no FAULT", w.fault(SCRIPT), NONE);
        Check.tape(w, "synk");
        Told.due("a FAULT behind four scripts", w.fault(SCRIPT), 0);
    }

    private static void p05text() {
        Told.promise(5, "The TAPE (empty then) is the WATCH");
        HushWatch w = new HushWatch();
        Check.tape(w, TWO);
        Told.promise(5, ": how many SITES;");
        Told.due("two", w.text(WATCH), 2);
        Told.due("empty then", w.held(2), 0);
        Told.due("the sites", w.rule(3), 2);
        Check.tape(w, "site 1,1;".repeat(7) + "site 1,1");
        Told.due("eight", w.text(WATCH), 8);
        Told.due("the sites", w.rule(3), 8);
        Told.promise(5, "a SCRIPT: its number.");
        for (int i = 0; i < 4; i++) {
            Told.due("script " + i, Check.script(w, "goal " + (i + 5)), i);
            Told.due("empty then", w.held(2), 0);
            Told.due("held(1)", w.held(1), i + 1);
        }
        for (int i = 0; i < 4; i++) {
            Told.due("what it tells", w.step(i, 0, 1), i + 5);
        }
    }

    private static void p05another() {
        Told.promise(5, "(all that was of another one is gone but SCRIPTS, STATUS)");
        String next = "law most;bound 77;goal 9;site 1,2;site 3,4;site -5,6";
        HushWatch w = Check.watch("bound 100;site 0,0;site 10,0;site 0,10;goal 20");
        Check.script(w, "goal 7");
        w.move(3, 1, 1);
        w.goal(0);
        w.freeze(0);
        w.move(0, 1, 1);
        w.move(1, 30, 30);
        w.move(2, 500, 500);
        w.add(1, 4);
        w.image();
        Check.tape(w, next);
        Told.due("text(0)", w.text(WATCH), 3);
        HushWatch alone = new HushWatch();
        Check.script(alone, "goal 7");
        Check.tape(alone, next);
        alone.text(WATCH);
        Told.same("as if it had been the first", Told.seen(w), Told.seen(alone));
        Told.due("no act of the other can be undone", w.undo(), NONE);
        Told.due("no image of the other", w.back(), NONE);
        Told.due("scripts stay", w.step(0, 0, 1), 7);
        for (int what = 0; what < 3; what++) {
            Told.due("status stays", w.status(what), 1);
        }
        Check.tape(w, TWO);
        w.text(WATCH);
        Told.due("sum without", w.rule(0), 0);
        Told.due("1000 without", w.rule(1), 1000);
        Told.due("100 without", w.rule(2), 100);
    }

    private static void p05refused() {
        Told.promise(5, "NONE: a FAULT (the TAPE stays),");
        HushWatch w = Check.watch(TWO);
        w.move(0, 5, 5);
        w.image();
        String before = Told.seen(w);
        Check.tape(w, "site 1,1");
        Told.due("text(0)", w.text(WATCH), NONE);
        Told.due("text(1)", w.text(SCRIPT), NONE);
        Told.due("the tape stays", w.held(2), 8);
        Told.due("the tape stays", w.feed(0x3b736974, 0x6520312c, 0x31000000, 0, 0), 17);
        Told.due("the tape stays", w.fault(WATCH), NONE);
        w.end(0);
        Told.due("an empty tape", w.text(WATCH), NONE);
        Told.due("an empty tape", w.text(SCRIPT), NONE);
        Told.same("nothing changes", Told.seen(w), before);
        Told.due("nothing changes", w.back(), 0);
        Told.promise(5, "no such sort,");
        int[] wrong = {-2, -1, 2, FAR[0], FAR[1]};
        Check.tape(w, TWO);
        for (int sort : wrong) {
            Told.due("text(" + sort + ")", w.text(sort), NONE);
            Told.due("the tape stays", w.held(2), 17);
        }
        Told.due("no status", w.status(0) + w.status(1) + w.status(2), 0);
    }

    private static void p05fourScripts() {
        Told.promise(5, "there are four SCRIPTS.");
        Told.terms("SCRIPTS (4 at most) are TEXTS");
        HushWatch w = new HushWatch();
        for (int i = 0; i < 4; i++) {
            Told.due("script " + i, Check.script(w, "goal " + i), i);
        }
        Told.due("a fifth", Check.script(w, "goal 9"), NONE);
        Told.due("the tape stays", w.held(2), 6);
        Told.due("held(1)", w.held(1), 4);
        Told.due("the fourth stays", w.step(3, 0, 1), 3);
        Told.due("the first stays", w.step(0, 0, 1), 0);
        Check.tape(w, TWO);
        Told.due("a watch all the same", w.text(WATCH), 2);
        Told.due("a fifth with another watch", Check.script(w, "goal 9"), NONE);
    }

    private static void watchWithout() {
        Told.terms("law (sum, square, most or taxi; sum without)");
        String[] laws = {"sum", "square", "most", "taxi"};
        for (int law = 0; law < 4; law++) {
            Told.due("law " + laws[law], Check.watch("law " + laws[law] + ";" + TWO).rule(0), law);
        }
        Told.due("without", Check.watch(TWO).rule(0), 0);
        Told.fault(WATCH, "law;" + TWO, 3);
        Told.fault(WATCH, "law su;" + TWO, 4);
        Told.fault(WATCH, "law sums;" + TWO, 4);
        Told.terms("bound (a number -9999999 .. 9999999; 1000)");
        Told.due("the greatest", Check.watch("bound 9999999;" + TWO).rule(1), 9999999);
        Told.due("the least", Check.watch("bound -9999999;" + TWO).rule(1), -9999999);
        Told.due("without", Check.watch(TWO).rule(1), 1000);
        Told.fault(WATCH, "bound 10000000;" + TWO, 6);
        Told.fault(WATCH, "bound -10000000;" + TWO, 6);
        Told.terms("goal (1 .. 9999; 100)");
        Told.due("the greatest", Check.watch("goal 9999;" + TWO).rule(2), 9999);
        Told.due("the least", Check.watch("goal 1;" + TWO).rule(2), 1);
        Told.due("without", Check.watch(TWO).rule(2), 100);
        Told.fault(WATCH, "goal 10000;" + TWO, 5);
        Told.fault(WATCH, "goal 0;" + TWO, 5);
        Told.fault(WATCH, "goal -0;" + TWO, 5);
        Told.fault(WATCH, "goal -1;" + TWO, 5);
    }

    private static void watchOrder() {
        Told.terms("in any order, each once at most,");
        String[] clauses = {"law taxi", "bound -7", "goal 8", TWO};
        for (int turn = 0; turn < 24; turn++) {
            int[] order = {turn / 6, turn / 2 % 3, turn % 2, 0};
            List<String> left = new ArrayList<>(List.of(clauses));
            StringBuilder text = new StringBuilder();
            for (int i : order) {
                text.append(text.length() == 0 ? "" : ";").append(left.remove(i));
            }
            HushWatch w = Check.watch(text.toString());
            Told.due(text + ": law", w.rule(0), 3);
            Told.due(text + ": bound", w.rule(1), -7);
            Told.due(text + ": goal", w.rule(2), 8);
        }
        for (int i = 0; i < 3; i++) {
            Told.fault(WATCH, clauses[i] + ";" + TWO + "; " + clauses[i], clauses[i].length() + 20);
            Told.fault(WATCH, clauses[i] + ";" + clauses[i], clauses[i].length() + 1);
        }
        Told.terms("site (two numbers -999 .. 999 with , between;");
        HushWatch edges = Check.watch("site 999,-999;site -999,999");
        int[] places = {999, -999, -999, 999};
        for (int i = 0; i < 4; i++) {
            Told.due("site(" + i / 2 + ", " + i % 2 + ")", edges.site(i / 2, i % 2), places[i]);
        }
        Told.fault(WATCH, "site 1000,0;" + TWO, 5);
        Told.fault(WATCH, "site -1000,0;" + TWO, 5);
        Told.fault(WATCH, "site 0,1000;" + TWO, 7);
        Told.fault(WATCH, "site 0,-1000;" + TWO, 7);
        Told.fault(WATCH, "site 0;" + TWO, 6);
        Told.fault(WATCH, "site 0 0;" + TWO, 7);
        Told.fault(WATCH, "site 0,0,0;" + TWO, 8);
        Told.fault(WATCH, "site ,0;" + TWO, 5);
    }

    private static void watchSites() {
        Told.terms("2 .. 8 SITES, numbered as they come), anywhere.");
        StringBuilder text = new StringBuilder("site 0,10");
        Told.fault(WATCH, text.toString(), 9);
        for (int sites = 2; sites <= 8; sites++) {
            text.append(";site ").append(sites - 1).append(",10");
            HushWatch w = Check.watch(text.toString());
            Told.due(sites + " sites", w.rule(3), sites);
            for (int site = 0; site < sites; site++) {
                Told.due("site(" + site + ", 0)", w.site(site, 0), site);
            }
        }
        Told.fault(WATCH, text + "; site 8,10", 81);
        HushWatch among = Check.watch("site 1,1;goal 5;site 2,2;law most;bound 7;site 3,3");
        for (int site = 0; site < 3; site++) {
            Told.due("site(" + site + ", 0)", among.site(site, 0), site + 1);
        }
    }

    private static void scriptSteps() {
        Told.terms("STEPS with ; between, 1 to 12:");
        Told.fault(SCRIPT, "", 0);
        Told.fault(SCRIPT, "  ", 2);
        Told.fault(SCRIPT, ";", 0);
        Told.fault(SCRIPT, "sync;;sync", 5);
        Told.fault(SCRIPT, "sync sync", 5);
        for (int steps = 1; steps <= 12; steps++) {
            HushWatch w = new HushWatch();
            Check.script(w, "sync;".repeat(steps - 1) + "goal 7");
            Told.due(steps + " steps", w.step(0, steps - 1, 1), 7);
            Told.due(steps + " steps", w.step(0, steps, 0), HIDDEN);
        }
        Told.terms("move (SITE, two numbers), add (SITE, a number), bound (a number), law (a WORD as above), "
                + "sync, goal (a number), freeze (SITE). Numbers between are separated by , .");
        String[] good = {"move 1,2,3", "add 1,2", "bound 1", "law sum", "sync", "goal 1", "freeze 1"};
        String[] fewer = {"move 1,2", "add 1", "bound", "law", "syn", "goal", "freeze"};
        int[] fewerFault = {8, 5, 5, 3, 0, 4, 6};
        for (int kind = 0; kind < 7; kind++) {
            Told.fault(SCRIPT, good[kind], NONE);
            Told.fault(SCRIPT, good[kind] + ",4", good[kind].length());
            Told.fault(SCRIPT, good[kind] + " 4", good[kind].length() + 1);
            Told.fault(SCRIPT, good[kind] + " sum", good[kind].length() + 1);
            Told.fault(SCRIPT, good[kind] + ";", good[kind].length() + 1);
            Told.fault(SCRIPT, fewer[kind], fewerFault[kind]);
            Told.fault(SCRIPT, fewer[kind] + ";sync", fewerFault[kind]);
        }
        Told.fault(SCRIPT, "move 1 2,3", 7);
        Told.fault(SCRIPT, "move 1,2;3", 8);
        Told.fault(SCRIPT, "law 1", 4);
        Told.fault(SCRIPT, "law move", 4);
        Told.fault(SCRIPT, "goal sum", 5);
    }

    private static void words() {
        Told.terms("A WORD is letters (a to z), as many as stand one behind another;");
        Told.fault(WATCH, "site0,0;site0,0;goal1;bound-1", NONE);
        Told.fault(WATCH, "law taxi;lawtaxi", 9);
        Told.fault(WATCH, "sitesite 0,0", 0);
        Told.fault(WATCH, "si te 0,0", 0);
        Told.fault(WATCH, "sit", 0);
        Told.fault(WATCH, "Site 0,0", 0);
        Told.fault(WATCH, "sitE 0,0", 0);
        Told.fault(WATCH, "site`0,0", 4);
        Told.fault(WATCH, "site{0,0", 4);
        Told.fault(WATCH, "sitea0,0", 0);
        Told.fault(WATCH, "sitez0,0", 0);
        Told.fault(WATCH, "law" + (char) 225 + "sum", 3);
        Told.fault(WATCH, "law sum" + (char) 225, 7);
        Told.fault(WATCH, "law `", 4);
        Told.fault(WATCH, "law {", 4);
    }

    /** A word with any one letter changed, one more or one fewer is none of these. */
    private static void almostWords() {
        Told.terms("a WORD that is none of these,");
        String[] watchWords = {"law", "bound", "goal", "site"};
        String[] stepWords = {"move", "add", "bound", "law", "sync", "goal", "freeze"};
        String[] laws = {"sum", "square", "most", "taxi"};
        for (String word : watchWords) {
            for (String almost : almost(word)) {
                Told.fault(WATCH, TWO + ";" + almost + " 1", 18);
            }
        }
        for (String word : stepWords) {
            for (String almost : almost(word)) {
                Told.fault(SCRIPT, "sync;" + almost + " 1", 5);
            }
        }
        for (String law : laws) {
            for (String almost : almost(law)) {
                Told.fault(WATCH, "law " + almost + ";" + TWO, 4);
                Told.fault(SCRIPT, "law " + almost, 4);
            }
        }
    }

    /** No word has a j in it. */
    private static List<String> almost(String word) {
        List<String> almost = new ArrayList<>();
        for (int i = 0; i < word.length(); i++) {
            almost.add(word.substring(0, i) + "j" + word.substring(i + 1));
        }
        almost.add(word.substring(1));
        almost.add(word.substring(0, word.length() - 1));
        almost.add(word + "j");
        almost.add("j" + word);
        return almost;
    }

    private static void numbers() {
        Told.terms("a number is a - or none and one to seven digits, as many as stand one behind another.");
        Told.fault(SCRIPT, "goal 0;goal -0;goal 9999999;goal -9999999;goal 0000000;goal -0000001", NONE);
        Told.fault(SCRIPT, "goal 12345678", 5);
        Told.fault(SCRIPT, "goal -12345678", 5);
        Told.fault(SCRIPT, "goal 00000001", 5);
        Told.fault(SCRIPT, "goal 123456789012345678901", 5);
        Told.fault(SCRIPT, "goal 4294967297", 5);
        Told.fault(SCRIPT, "goal --1", 5);
        Told.fault(SCRIPT, "goal +1", 5);
        Told.fault(SCRIPT, "goal 1-1", 6);
        Told.fault(SCRIPT, "goal 1/", 6);
        Told.fault(SCRIPT, "goal 1:", 6);
        Told.fault(SCRIPT, "goal 1 0", 7);
        Told.fault(SCRIPT, "goal /", 5);
        Told.fault(SCRIPT, "goal :", 5);
        Told.fault(SCRIPT, "goal 1" + (char) 178, 6);
        HushWatch w = new HushWatch();
        Check.script(w, "move 0123456,-7890123,0000009;goal -0");
        Told.due("with a 0 ahead", w.step(0, 0, 1), 123456);
        Told.due("with a -", w.step(0, 0, 2), -7890123);
        Told.due("six of 0 ahead", w.step(0, 0, 3), 9);
        Told.due("-0", w.step(0, 1, 1), 0);
    }

    private static void blanks() {
        Told.terms("Blanks (32) may stand ahead of and behind all these, and ; and ,, not behind a -.");
        Told.fault(WATCH, "  law  taxi  ;  bound  -5  ;  site  1  ,  -2  ;site 3,4  ", NONE);
        Told.fault(SCRIPT, "  move  1  ,  2  ,  3  ;  sync  ;  law  sum  ", NONE);
        Told.fault(SCRIPT, "goal - 1", 5);
        Told.fault(SCRIPT, "goal  - 1", 6);
        Told.fault(SCRIPT, "move 1,2, - 3", 10);
        int[] others = {1, 9, 10, 13, 31, 33, 127, 160, 255};
        for (int sign : others) {
            Told.fault(WATCH, (char) sign + TWO, 0);
            Told.fault(WATCH, TWO + (char) sign, 17);
            Told.fault(WATCH, "site" + (char) sign + "0,0;site 0,0", 4);
            Told.fault(SCRIPT, "sync " + (char) sign, 5);
        }
    }

    private static void faultEndsEarly() {
        Told.terms("FAULT: where the first part begins that can't be (the length, if the TEXT ends too early, "
                + "or with fewer than two SITES):");
        String[] early = {"", " ", "site", "site ", "site 1", "site 1,", "site 1 , ", TWO + ";", TWO + " ; ",
            TWO + ";law", TWO + ";law ", TWO + ";bound", TWO + ";goal  "};
        for (String text : early) {
            Told.fault(WATCH, text, text.length());
        }
        String[] earlySteps = {"", "move", "move 1", "move 1,", "move 1,2", "move 1,2, ", "add 1", "add 1,",
            "law", "bound ", "goal", "freeze", "sync;", "sync ; "};
        for (String text : earlySteps) {
            Told.fault(SCRIPT, text, text.length());
        }
        Told.fault(WATCH, "site 1,1", 8);
        Told.fault(WATCH, "site 1,1  ", 10);
        Told.fault(WATCH, "goal 5", 6);
        Told.fault(WATCH, "law sum;bound 5 ", 16);
        Told.fault(WATCH, "site 1,1;site 1000,1000;goal 0;x", 14);
        Told.fault(WATCH, "goal 5;goal 0;site 1000,0", 7);
        Told.fault(SCRIPT, "goal 12345678;x", 5);
    }

    private static void faultParts() {
        Told.terms("a WORD that is none of these, or was there already (but site), a ninth site;");
        String[] noClauses = {"move 0,1,1", "sync", "add 0,1", "freeze 0", "sum", "x"};
        for (String clause : noClauses) {
            Told.fault(WATCH, TWO + "; " + clause, 19);
        }
        Told.fault(SCRIPT, "sync;site 0,0", 5);
        Told.fault(SCRIPT, "sync;sum", 5);
        Told.fault(SCRIPT, "goal 1;goal 1;law sum;law sum;bound 1;bound 1", NONE);
        String eight = "site 0,0;".repeat(7) + "site 0,0";
        Told.fault(WATCH, eight, NONE);
        Told.fault(WATCH, eight + "; site", 73);
        Told.fault(WATCH, eight + ";law sum;site 1000,0", 80);
        Told.terms("a number that is none (a - without a digit, eight digits or more), out of its bounds "
                + "(in a SCRIPT any number of seven digits may stand);");
        Told.fault(WATCH, "site 1,2;site 3,-", 16);
        Told.fault(WATCH, "site -,1;" + TWO, 5);
        Told.fault(WATCH, "bound -;" + TWO, 6);
        Told.fault(WATCH, "bound 00000000;" + TWO, 6);
        Told.fault(WATCH, "goal 00000001;" + TWO, 5);
        Told.fault(WATCH, "site 00000001,1;" + TWO, 5);
        Told.fault(WATCH, "goal 0000001;site 0000001,-0000001;" + TWO, NONE);
        Told.fault(SCRIPT, "move 9999999,9999999,-9999999;add -9999999,9999999;goal 0;bound -9999999;"
                + "freeze 9999999", NONE);
        Told.terms("any other part;");
        String[] others = {";", ",", "5", "-5", "-", "!", ".", "" + (char) 255};
        for (String other : others) {
            Told.fault(WATCH, other + TWO, 0);
            Told.fault(SCRIPT, other + "sync", 0);
            Told.fault(WATCH, "law " + other, 4);
            Told.fault(SCRIPT, "law " + other, 4);
        }
        Told.fault(WATCH, "goal ;" + TWO, 5);
        Told.fault(WATCH, "site 1;2;" + TWO, 6);
        Told.fault(WATCH, TWO + ",", 17);
        Told.fault(WATCH, TWO + " law sum", 18);
    }

    private static void faultThirteen() {
        Told.terms("the ; ahead of a 13th STEP.");
        Told.fault(SCRIPT, TWELVE, NONE);
        Told.fault(SCRIPT, TWELVE + " ", NONE);
        Told.fault(SCRIPT, TWELVE + ";sync", 59);
        Told.fault(SCRIPT, TWELVE + "  ; sync", 61);
        Told.fault(SCRIPT, TWELVE + ";x", 59);
        Told.fault(SCRIPT, TWELVE + ",", 59);
        Told.terms("(What a STEP tells that can't be is no FAULT.)");
        HushWatch w = Check.watch(TWO);
        Told.due("all that can't be", Check.script(w, "move 9,0,0;add -1,0;goal 0;bound 1000;law sum;freeze 8"), 0);
        Told.due("behind none", w.run(0, 0), 0);
    }

    public static void main(String[] args) {
        p01noWatch();
        p01usedOften();
        p02feed();
        p02zeros();
        p02full();
        p02fullTexts();
        p03end();
        p03endCuts();
        p03endRefused();
        p04fault();
        p04faultWithFullScripts();
        p05text();
        p05another();
        p05refused();
        p05fourScripts();
        watchWithout();
        watchOrder();
        watchSites();
        scriptSteps();
        words();
        almostWords();
        numbers();
        blanks();
        faultEndsEarly();
        faultParts();
        faultThirteen();
        Told.finish("TextBoundaryTest", 1, 5);
    }
}
