/** A method for each promise of the document: ordinary inputs, edges that it names, wrong inputs. */
public final class PromisesTest {
    private static final int NONE = HushWatch.NONE;
    private static final int HIDDEN = HushWatch.HIDDEN;
    private static final String THREE = "bound 100;site 0,0;site 10,0;site 0,10;goal 20";

    private static void due(String call, long got, long want) {
        Check.due(call, got, want);
    }

    private static void p01newObject() {
        HushWatch w = new HushWatch();
        for (int what = 0; what < 5; what++) {
            due("1: held(" + what + ")", w.held(what), 0);
        }
        due("1: rule(3)", w.rule(3), HIDDEN);
        due("1: most(0)", w.most(0), HIDDEN);
        due("1: status(0)", w.status(0), 0);
        due("1: NONE", HushWatch.NONE, -1);
        due("1: HIDDEN", HushWatch.HIDDEN, -100000000);
    }

    private static void p02feed() {
        HushWatch w = new HushWatch();
        due("2: bytes of 0 are left out", w.feed(0x61006200, 0, 0x00000063, 0, 0x64000000), 4);
        Check.tape(w, "site 1,2;site 3,4");
        due("2: the highest byte first", w.fault(0), NONE);
        w.end(0);
        for (int i = 1; i <= 16; i++) {
            due("2: twenty bytes", w.feed(-1, 0x20202020, -1, -1, -1), 20 * i);
        }
        due("2: a byte more than 320", w.feed(0, 0, 0, 0, 1), NONE);
        due("2: refused, the tape stays", w.held(2), 320);
        due("2: nothing more is no more than 320", w.feed(0, 0, 0, 0, 0), 320);
        w.end(319);
        due("2: two bytes more than fit", w.feed(0x61000000, 0, 0, 0, 97), NONE);
        due("2: none of them came", w.held(2), 319);
        due("2: in any of the numbers", w.feed(0, 97, 97, 0, 0), NONE);
        due("2: in any of the numbers", w.feed(97, 97, 0, 0, 0), NONE);
        due("2: in any of the numbers", w.feed(0, 0, 97, 97, 0), NONE);
        due("2: in any of the numbers", w.feed(0, 0, 0, 0x6161, 0), NONE);
        due("2: one byte more", w.feed(0, 0, 0x6100, 0, 0), 320);
    }

    private static void p03end() {
        HushWatch w = new HushWatch();
        Check.due("3: end(0) of an empty tape", w.end(0), true);
        Check.due("3: end(1) of an empty tape", w.end(1), false);
        Check.tape(w, "site 1,2;site 3,4;;");
        Check.due("3: end(-1)", w.end(-1), false);
        Check.due("3: end(20)", w.end(20), false);
        due("3: refused, the tape stays", w.held(2), 19);
        Check.due("3: end(19)", w.end(19), true);
        Check.due("3: end(17)", w.end(17), true);
        due("3: the first bytes stay", w.fault(0), NONE);
        due("3: how many", w.held(2), 17);
        Check.due("3: what was cut is gone", w.end(18), false);
    }

    private static void p04faultOfWatches() {
        Check.faultDue(0, "", 0);
        Check.faultDue(0, "   ", 3);
        Check.faultDue(0, "site 1,2;site 3,4", NONE);
        Check.faultDue(0, "site1,2;site3,4;lawsum", 16);
        Check.faultDue(0, "site1,2;site-3,-4;law most;bound-9999999;goal9999", NONE);
        Check.faultDue(0, "  goal  1 ;  site  -999 , 999  ;site 0000000,-0  ; law taxi ", NONE);
        Check.faultDue(0, "site 1,2;site 3,4;", 18);
        Check.faultDue(0, "site 1,2;site 3,4 ; ", 20);
        Check.faultDue(0, "site 1,2;;site 3,4", 9);
        Check.faultDue(0, "site 1,2,3;site 3,4", 8);
        Check.faultDue(0, "site 1,2 site 3,4", 9);
        Check.faultDue(0, "site 1 2;site 3,4", 7);
        Check.faultDue(0, "site 1,2  ", 10);
        Check.faultDue(0, "bound 5;goal 7", 14);
        Check.faultDue(0, "site 1,1000;site 3,4", 7);
        Check.faultDue(0, "site -1000,1;site 3,4", 5);
        Check.faultDue(0, "site 1,-;site 3,4", 7);
        Check.faultDue(0, "site 1,2;site 3,-", 16);
        Check.faultDue(0, "bound 00000001;site 1,2;site 3,4", 6);
        Check.faultDue(0, "bound -0000001;site 1,2;site 3,4", NONE);
        Check.faultDue(0, "goal 10000;site 1,2;site 3,4", 5);
        Check.faultDue(0, "goal -1;site 1,2;site 3,4", 5);
        Check.faultDue(0, "goal x;site 1,2;site 3,4", 5);
        Check.faultDue(0, "bound 1;site 1,2;bound 2;site 3,4", 17);
        Check.faultDue(0, "goal 1;goal 1", 7);
        Check.faultDue(0, "law law;site 1,2", 4);
        Check.faultDue(0, "law 1;site 1,2", 4);
        Check.faultDue(0, "sync;site 1,2", 0);
        Check.faultDue(0, " Site 1,2", 1);
        Check.faultDue(0, "site 1,2;site 3,4\t", 17);
        Check.faultDue(0, "site 1,2;site 3,4" + (char) 233, 17);
        Check.faultDue(0, "5", 0);
        String eight = "site 1,2;".repeat(7) + "site 3,4";
        Check.faultDue(0, eight, NONE);
        Check.faultDue(0, eight + "; site 5,6", 73);
        Check.faultDue(0, eight + ";law sum;goal 5;bound 6", NONE);
        due("4: no such sort", new HushWatch().fault(2), -2);
        due("4: no such sort", new HushWatch().fault(-1), -2);
    }

    private static void p04faultOfScripts() {
        Check.faultDue(1, "", 0);
        Check.faultDue(1, "sync", NONE);
        Check.faultDue(1, " move 9 , -9999999,0000000 ;add 99,-1;bound 9999999;law sum;goal 0;freeze -7 ", NONE);
        Check.faultDue(1, "move 1,2", 8);
        Check.faultDue(1, "move 1,2,3,4", 10);
        Check.faultDue(1, "add 1;2", 5);
        Check.faultDue(1, "freeze 1,2", 8);
        Check.faultDue(1, "sync 1", 5);
        Check.faultDue(1, "sync;", 5);
        Check.faultDue(1, "site 1,2", 0);
        Check.faultDue(1, "law tax", 4);
        Check.faultDue(1, "goal 12345678", 5);
        Check.faultDue(1, "goal -", 5);
        Check.faultDue(1, "goal - 1", 5);
        Check.faultDue(1, "sync;goal 1;goal 1;sync", NONE);
        String twelve = "sync;".repeat(11) + "sync";
        Check.faultDue(1, twelve, NONE);
        Check.faultDue(1, twelve + "  ", NONE);
        Check.faultDue(1, twelve + " ;", 60);
        Check.faultDue(1, twelve + ";sync", 59);
        Check.faultDue(1, twelve + " sync", 60);
    }

    private static void p05text() {
        HushWatch w = Check.watch(THREE);
        due("5: the tape is empty then", w.held(2), 0);
        due("5: an empty tape", w.text(0), NONE);
        due("5: the watch stays", w.rule(3), 3);
        Check.tape(w, "site 1,2");
        due("5: a fault", w.text(0), NONE);
        due("5: the tape stays", w.held(2), 8);
        due("5: no such sort", w.text(2), NONE);
        due("5: no such sort", w.text(-1), NONE);
        for (int i = 0; i < 4; i++) {
            due("5: a script", Check.script(w, "sync;bound " + i), i);
        }
        due("5: the tape is empty then", w.held(2), 0);
        due("5: four scripts", Check.script(w, "sync"), NONE);
        due("5: the tape stays", w.held(2), 4);
        w.move(0, 0, 0);
        w.move(0, 60, 0);
        w.add(1, 5);
        w.image();
        Check.tape(w, "law square;site 3,4;site 1,-1");
        due("5: another watch", w.text(0), 2);
        due("5: law", w.rule(0), 1);
        due("5: bound without", w.rule(1), 1000);
        due("5: goal without", w.rule(2), 100);
        due("5: messages are gone", w.most(0), 0);
        due("5: hearings are gone", w.most(3), 0);
        due("5: crossings are gone", w.most(4), 0);
        due("5: the log is gone", w.held(3), 0);
        due("5: acts are gone", w.undo(), NONE);
        due("5: the image is gone", w.back(), NONE);
        due("5: counts are gone", w.count(5), 0);
        due("5: scripts stay", w.held(1), 4);
        due("5: status stays", w.status(2), 1);
        due("5: places", w.all(0), 4);
        due("5: places", w.all(1), 3);
        Check.tape(w, "site 1,1;site 2,2");
        due("5: a watch without a law", w.text(0), 2);
        due("5: sum without", w.rule(0), 0);
    }

    private static void p06rule() {
        HushWatch w = Check.watch("site 1,1;law taxi;site 2,2;goal 77;bound -5");
        due("6: law", w.rule(0), 3);
        due("6: bound", w.rule(1), -5);
        due("6: goal", w.rule(2), 77);
        due("6: sites", w.rule(3), 2);
        due("6: no such", w.rule(4), HIDDEN);
        due("6: no such", w.rule(-1), HIDDEN);
        w.law(2);
        w.bound(9);
        w.goal(3);
        due("6: as now", w.rule(0), 2);
        due("6: as now", w.rule(1), 9);
        due("6: as now", w.rule(2), 3);
        due("6: law most told", Check.watch("law most;site 1,1;site 2,2").rule(0), 2);
    }

    private static void p07site() {
        HushWatch w = Check.watch(THREE);
        w.move(0, 31, -1);
        int[] first = {31, -1, 0, 0, -15, 1, 16, 0, 58, 10, 1, 0, 0, 0};
        int[] second = {10, 0, 10, 0, 15, -1, 15, -1, 55, 7, 1, 2, 2, 1};
        w.add(1, 2);
        w.freeze(1);
        // The drifts 31, -1 are shared: 16 and 15 on x, and on y -1 over two is -1, 1 left over: 0 and -1.
        for (int what = 0; what < 14; what++) {
            due("7: site(0, " + what + ")", w.site(0, what), first[what]);
            due("7: site(1, " + what + ")", w.site(1, what), second[what]);
        }
        Check.due("7: site(3, 0)", Check.siteThrows(w, 3, 0), true);
        Check.due("7: site(-1, 0)", Check.siteThrows(w, -1, 0), true);
        Check.due("7: site(0, 14)", Check.siteThrows(w, 0, 14), true);
        Check.due("7: site(0, -1)", Check.siteThrows(w, 0, -1), true);
        Check.due("7: no watch", Check.siteThrows(new HushWatch(), 0, 0), true);
    }

    private static void p08value() {
        HushWatch w = Check.watch("site 1,1;site 2,2");
        due("8: sum", w.value(3, -5), -2);
        w.law(1);
        due("8: square", w.value(3, -5), 34);
        due("8: square", w.value(-1000000, 1000000), 2000000000000L);
        w.law(2);
        due("8: most", w.value(3, -5), 5);
        due("8: most", w.value(-7, 6), 7);
        w.law(3);
        due("8: taxi", w.value(3, -5), 8);
        due("8: the edge", w.value(1000000, -1000000), 2000000);
        due("8: the edge", w.value(-1000000, 1000000), 2000000);
        due("8: out of bounds", w.value(1000001, 0), HIDDEN);
        due("8: out of bounds", w.value(-1000001, 0), HIDDEN);
        due("8: out of bounds", w.value(0, 1000001), HIDDEN);
        due("8: out of bounds", w.value(0, -1000001), HIDDEN);
        due("8: out of bounds", w.value(Integer.MIN_VALUE, 0), HIDDEN);
        due("8: no watch", new HushWatch().value(0, 0), HIDDEN);
    }

    private static void p09tells() {
        HushWatch w = Check.watch("bound 25;law square;site 1,1;site 2,2");
        Check.due("9: below", w.tells(4, 2), true);
        Check.due("9: the bound itself", w.tells(4, -3), false);
        w.bound(-5);
        Check.due("9: nothing is below", w.tells(0, 0), false);
        w.law(0);
        Check.due("9: sum", w.tells(-1000000, 0), true);
        Check.due("9: out of bounds", w.tells(-1000001, 0), false);
        Check.due("9: out of bounds", w.tells(0, -1000001), false);
        Check.due("9: no watch", new HushWatch().tells(0, 0), false);
    }

    private static void p10all() {
        HushWatch w = Check.watch("law square;bound 9999;site 3,4;site -1,-2");
        w.move(0, 5, 6);
        due("10: quiet", w.most(1), 0);
        long[] dues = {2, 2, 7, 8, 8, 113};
        for (int what = 0; what < 6; what++) {
            due("10: all(" + what + ")", w.all(what), dues[what]);
        }
        due("10: no such", w.all(6), HIDDEN);
        due("10: no such", w.all(-1), HIDDEN);
        due("10: no watch", new HushWatch().all(2), HIDDEN);
    }

    private static void p11move() {
        HushWatch w = Check.watch(THREE);
        due("11: quiet", w.move(0, 26, 0), 0);
        due("11: it speaks", w.move(0, 1, 0), 5);
        due("11: drifts 14 and 13", w.site(0, 6), 14);
        due("11: drifts 14 and 13", w.site(1, 6), 13);
        due("11: two partners and all heard", w.move(0, 9999, 0), 1 + 2 + 2 + 3);
        due("11: above", w.most(5), 1);
        due("11: above, nobody is asked", w.move(2, -9999, 0), 1 + 2 + 3);
        due("11: crossed twice", w.most(4), 2);
        due("11: no such site", w.move(3, 1, 1), NONE);
        due("11: no such site", w.move(-1, 99999, 1), NONE);
        due("11: status 0", w.status(0), 2);
        due("11: out of bounds", w.move(0, 10000, 0), NONE);
        due("11: out of bounds", w.move(0, 0, -10000), NONE);
        due("11: out of bounds", w.move(0, Integer.MIN_VALUE, 0), NONE);
        due("11: status 1", w.status(1), 3);
        due("11: both are 0", w.move(0, 0, 0), NONE);
        w.freeze(0);
        due("11: frozen", w.move(0, 1, 0), NONE);
        due("11: frozen and out of bounds", w.move(0, 10000, 0), NONE);
        due("11: status 2", w.status(2), 2);
        due("11: the first of several", w.status(1), 4);
    }

    private static void p11moveToTheEdge() {
        HushWatch w = Check.watch("bound 9999999;site 0,0;site 0,0");
        int[][] edges = {{9999, 0}, {-9999, 0}, {0, 9999}, {0, -9999}};
        for (int[] edge : edges) {
            due("11: the edge of a move", w.move(1, edge[0], edge[1]), 0);
            due("11: beyond it", w.move(1, edge[0] + Integer.signum(edge[0]),
                    edge[1] + Integer.signum(edge[1])), NONE);
        }
        due("11: status 1", w.status(1), 4);
        for (int i = 0; i < 10; i++) {
            due("11: far below is quiet", w.move(0, 0, -9999), 0);
        }
        due("11: the edge itself", w.move(0, 0, -9), 0);
        due("11: place", w.site(0, 1), -99999);
        due("11: beyond", w.move(0, 0, -1), NONE);
        due("11: status 1", w.status(1), 5);
        due("11: nothing changed", w.site(0, 1), -99999);
    }

    private static void p11partnersGoRound() {
        HushWatch w = Check.watch("bound 10;site 0,0;site 0,0;site 0,0;site 0,0");
        w.freeze(3);
        // 4 times 5 is not below 10; with site 0: 3 and 2 are not quiet; with 0 and 1: 2, 2, 1 are.
        due("11: behind the last one the first", w.move(2, 5, 0), 1 + 2 + 2 + 3);
        due("11: the first ones by numbers have more", w.site(0, 6), 2);
        due("11: the first ones by numbers have more", w.site(1, 6), 2);
        due("11: the first ones by numbers have more", w.site(2, 6), 1);
        due("11: a frozen one keeps its drift", w.site(3, 6), 0);
        due("11: slacks add up to nought", w.most(8), 0);
    }

    private static void p12freeze() {
        HushWatch w = Check.watch(THREE);
        due("12: frozen", w.freeze(1), 1);
        due("12: not any more", w.freeze(1), 0);
        w.move(1, 20, 0);
        w.freeze(1);
        due("12: two of three", w.freeze(0), 1);
        due("12: none would be left", w.freeze(2), NONE);
        due("12: status 2", w.status(2), 1);
        due("12: no such site", w.freeze(3), NONE);
        due("12: no such site", w.freeze(-1), NONE);
        due("12: status 0", w.status(0), 2);
        due("12: its drift stays", w.site(1, 6), 20);
        w.sync();
        due("12: it is heard, too", w.site(1, 6), 0);
        due("12: still frozen", w.most(11), 3);
        due("12: not any more", w.freeze(0), 0);
        due("12: nothing is said", w.log(0, 2), 0);
        HushWatch none = new HushWatch();
        due("12: no watch", none.freeze(0), NONE);
        due("12: status 0", none.status(0), 1);
    }

    private static void p13sync() {
        HushWatch w = Check.watch(THREE);
        w.move(0, 30, 0);
        due("13: twice as many as sites", w.sync(), 6);
        due("13: places heard", w.site(0, 2), 30);
        due("13: slacks 0", w.most(7), 0);
        due("13: sum", w.all(0), 40);
        due("13: nobody spoke for it", w.most(1), 1);
        due("13: heard", w.most(3), 1);
        HushWatch none = new HushWatch();
        due("13: no watch", none.sync(), NONE);
        due("13: status 0", none.status(0), 1);
    }

    private static void p14bound() {
        HushWatch w = Check.watch(THREE);
        w.move(0, 5, 0);
        due("14: what it was", w.bound(25), 100);
        due("14: all are heard, above now", w.most(5), 1);
        due("14: places heard", w.site(0, 2), 5);
        due("14: crossed", w.most(4), 1);
        due("14: messages", w.most(0), 6);
        due("14: heard", w.most(3), 1);
        due("14: it is so", w.bound(25), HIDDEN);
        due("14: status 2", w.status(2), 1);
        due("14: out of bounds", w.bound(10000000), HIDDEN);
        due("14: out of bounds", w.bound(-10000000), HIDDEN);
        due("14: status 1", w.status(1), 2);
        due("14: the edge", w.bound(-9999999), 25);
        due("14: the edge", w.bound(9999999), -9999999);
        due("14: crossed", w.most(4), 2);
        HushWatch none = new HushWatch();
        due("14: no watch", none.bound(10000000), HIDDEN);
        due("14: status 0", none.status(0), 1);
    }

    private static void p15law() {
        HushWatch w = Check.watch(THREE);
        w.move(0, 1, 0);
        due("15: what it was", w.law(1), 0);
        due("15: above by squares", w.most(5), 1);
        due("15: places heard", w.site(0, 2), 1);
        due("15: messages", w.log(0, 2), 6);
        due("15: what it was", w.law(3), 1);
        due("15: crossed twice", w.most(4), 2);
        due("15: it is so", w.law(3), NONE);
        due("15: status 2", w.status(2), 1);
        due("15: out of bounds", w.law(4), NONE);
        due("15: out of bounds", w.law(-1), NONE);
        due("15: status 1", w.status(1), 2);
        HushWatch none = new HushWatch();
        due("15: no watch", none.law(7), NONE);
        due("15: status 0", none.status(0), 1);
    }

    private static void p16add() {
        HushWatch w = Check.watch(THREE);
        due("16: step 3, less than that", w.add(2, 2), 0);
        due("16: rest", w.site(2, 12), 2);
        due("16: two signals", w.add(2, 5), 2);
        due("16: rest", w.site(2, 12), 1);
        due("16: the third ends the round", w.add(0, 9), 1 + 6);
        due("16: all counts are known", w.count(0), 16);
        due("16: rests are 0", w.site(2, 12), 0);
        due("16: step 0", w.count(1), 0);
        due("16: told at once", w.add(1, 3), 1);
        due("16: known", w.count(0), 19);
        due("16: over the goal", w.add(1, 999), 1);
        due("16: known", w.count(0), 1018);
        due("16: reached", w.add(1, 1), NONE);
        due("16: status 2", w.status(2), 1);
        due("16: reached and out of bounds", w.add(1, 1000), NONE);
        due("16: out of bounds", w.add(1, 0), NONE);
        due("16: out of bounds", w.add(1, -1), NONE);
        due("16: status 1", w.status(1), 3);
        due("16: no such site", w.add(3, 1), NONE);
        due("16: no such site", w.add(-1, 0), NONE);
        due("16: status 0", w.status(0), 2);
        due("16: messages are counted", w.most(0), 11);
        w.goal(20);
        w.freeze(0);
        due("16: a frozen site can be added to", w.add(0, 3), 1);
    }

    private static void p17goal() {
        HushWatch w = Check.watch(THREE);
        w.add(0, 10);
        w.add(1, 4);
        due("17: two rounds, with steps of 3 and of 1", w.count(3), 2);
        due("17: what it was", w.goal(50), 20);
        for (int what = 0; what < 6; what++) {
            due("17: count(" + what + ")", w.count(what), what == 1 ? 8 : 0);
        }
        due("17: count of a site", w.site(0, 11), 0);
        due("17: no message", w.log(0, 2), 0);
        w.add(0, 7);
        due("17: the same goal again", w.goal(50), 50);
        due("17: rests are 0", w.site(0, 12), 0);
        due("17: out of bounds", w.goal(0), NONE);
        due("17: out of bounds", w.goal(10000), NONE);
        due("17: status 1", w.status(1), 2);
        due("17: the edge", w.goal(9999), 50);
        due("17: the edge", w.goal(1), 9999);
        HushWatch none = new HushWatch();
        due("17: no watch", none.goal(0), NONE);
        due("17: status 0", none.status(0), 1);
    }

    private static void p18count() {
        HushWatch w = Check.watch(THREE);
        w.add(0, 4);
        w.add(1, 1);
        long[] dues = {0, 3, 1, 0, 0, 5};
        for (int what = 0; what < 6; what++) {
            due("18: count(" + what + ")", w.count(what), dues[what]);
        }
        w.add(2, 999);
        long[] then = {1004, 0, 0, 1, 1, 1004};
        for (int what = 0; what < 6; what++) {
            due("18: then count(" + what + ")", w.count(what), then[what]);
        }
        due("18: no such", w.count(6), NONE);
        due("18: no such", w.count(-1), NONE);
        due("18: no watch", new HushWatch().count(0), NONE);
    }

    /** A year of the document's words, with its own draws, done by hand. */
    private static final class ByHand {
        private final HushWatch watch;
        private final int sites;
        private long x;

        ByHand(HushWatch watch, long seed) {
            this.watch = watch;
            this.sites = watch.rule(3);
            this.x = seed;
        }

        private int draw(int of) {
            x = x * 6364136223846793005L + 1442695040888963407L;
            return (int) ((x >>> 33) % of);
        }

        int year() {
            int what = draw(8);
            if (what == 7) {
                return watch.sync();
            }
            int site = draw(sites);
            if (what == 6) {
                return Math.max(0, watch.add(site, draw(9) + 1));
            }
            int moveX = draw(21) - 10;
            return Math.max(0, watch.move(site, moveX, draw(21) - 10));
        }
    }

    private static void p19years() {
        long[] seeds = {0, 1, -1, 123456789012345L, Long.MIN_VALUE};
        for (long seed : seeds) {
            HushWatch w = Check.watch(THREE);
            w.freeze(1);
            HushWatch hand = Check.watch(THREE);
            hand.freeze(1);
            ByHand years = new ByHand(hand, seed);
            int messages = 0;
            for (int i = 0; i < 40; i++) {
                messages += years.year();
            }
            due("19: years(40, " + seed + ")", w.years(40, seed), messages);
            for (int what = 0; what < 12; what++) {
                due("19: most(" + what + ")", w.most(what), hand.most(what));
            }
            for (int i = 0; i < 42; i++) {
                due("19: log", w.log(i, 0) * 1000L + w.log(i, 2), hand.log(i, 0) * 1000L + hand.log(i, 2));
            }
            due("19: each is an act", w.held(4), hand.held(4));
            due("19: no status", w.status(2), 0);
        }
        HushWatch w = Check.watch(THREE);
        due("19: out of bounds", w.years(0, 1), NONE);
        due("19: out of bounds", w.years(41, 1), NONE);
        due("19: the edge", w.years(1, 1) >= 0 ? 1 : 0, 1);
        w.undo();
        due("19: nothing was done", w.held(3), 0);
        due("19: no watch", new HushWatch().years(1, 1), NONE);
    }

    private static void p20status() {
        HushWatch w = Check.watch(THREE);
        w.move(9, 1, 1);
        w.move(0, 1, 0);
        w.move(0, 0, 0);
        due("20: undone", w.undo(), 0);
        due("20: status is not undone", w.status(0), 1);
        due("20: status is not undone", w.status(2), 1);
        due("20: none", w.status(1), 0);
        w.image();
        w.bound(100);
        w.back();
        due("20: nor brought back", w.status(2), 2);
        w.would(9, 1, 1, 0);
        w.limit(9, 1, 1);
        w.years(0, 0);
        w.undo();
        due("20: only acts count", w.status(0), 1);
        due("20: no such", w.status(3), NONE);
        due("20: no such", w.status(-1), NONE);
    }

    private static void p21undo() {
        HushWatch w = Check.watch(THREE);
        due("21: none", w.undo(), NONE);
        w.move(0, 30, 0);
        w.freeze(2);
        w.add(0, 9);
        w.goal(7);
        w.law(3);
        w.bound(55);
        w.sync();
        due("21: how many still", w.undo(), 6);
        due("21: bound undone", w.undo(), 5);
        due("21: bound", w.rule(1), 100);
        due("21: law undone", w.undo(), 4);
        due("21: law", w.rule(0), 0);
        due("21: slack is there again", w.site(1, 4), 15);
        due("21: goal undone", w.undo(), 3);
        due("21: goal", w.rule(2), 20);
        due("21: counts are there again", w.count(0), 9);
        due("21: round", w.count(3), 1);
        due("21: add undone", w.undo(), 2);
        due("21: count", w.count(5), 0);
        due("21: freeze undone", w.undo(), 1);
        due("21: frozen", w.most(11), 0);
        due("21: move undone", w.undo(), 0);
        due("21: place", w.site(0, 0), 0);
        due("21: messages", w.most(0), 0);
        due("21: spoken", w.most(1), 0);
        due("21: balanced", w.most(2), 0);
        due("21: the log, too", w.held(3), 0);
        due("21: none", w.undo(), NONE);
    }

    private static void p21undoTheLatestForty() {
        HushWatch w = Check.watch(THREE);
        for (int i = 1; i <= 70; i++) {
            w.goal(i);
        }
        due("21: forty", w.held(4), 40);
        for (int i = 39; i >= 0; i--) {
            due("21: how many still", w.undo(), i);
            due("21: goal", w.rule(2), 30 + i);
        }
        due("21: none", w.undo(), NONE);
        due("21: the log is as it was", w.held(3), 30);
        due("21: the log is as it was", w.log(29, 1), 1);
        due("21: the latest", w.log(0, 1), 30);
        w.goal(99);
        due("21: one again", w.held(4), 1);
    }

    private static void p22log() {
        HushWatch w = Check.watch(THREE);
        w.move(2, 0, 30);
        w.sync();
        w.bound(-3);
        w.law(2);
        w.add(1, 3);
        w.goal(44);
        w.freeze(1);
        int[][] dues = {{6, 1, 0}, {5, 44, 0}, {4, 1, 1}, {3, 2, 6}, {2, -3, 6}, {1, NONE, 6}, {0, 2, 5}};
        for (int i = 0; i < dues.length; i++) {
            for (int what = 0; what < 3; what++) {
                due("22: log(" + i + ", " + what + ")", w.log(i, what), dues[i][what]);
            }
        }
        due("22: no such", w.log(7, 0), HIDDEN);
        due("22: no such", w.log(-1, 0), HIDDEN);
        due("22: no such", w.log(0, 3), HIDDEN);
        due("22: no such", w.log(0, -1), HIDDEN);
        due("22: no watch", new HushWatch().log(0, 0), HIDDEN);
        for (int i = 1; i <= 170; i++) {
            w.goal(i);
        }
        due("22: the latest 60", w.held(3), 60);
        due("22: the latest", w.log(0, 1), 170);
        due("22: the 60th", w.log(59, 1), 111);
        due("22: no 61st", w.log(60, 1), HIDDEN);
        for (int i = 0; i < 40; i++) {
            w.undo();
        }
        due("22: undone", w.log(0, 1), 130);
        due("22: as it was then", w.log(59, 1), 71);
    }

    private static void p23limit() {
        HushWatch w = Check.watch(THREE);
        due("23: five times", w.limit(0, 5, 0), 5);
        due("23: at once", w.limit(0, 27, 0), 0);
        due("23: 200 at most", w.limit(0, -1, 0), 200);
        due("23: out of bounds behind ten", w.limit(0, -9999, 0), 10);
        due("23: both are 0", w.limit(0, 0, 0), NONE);
        due("23: out of bounds", w.limit(0, 10000, 0), NONE);
        due("23: out of bounds", w.limit(0, 0, -10000), NONE);
        due("23: no such site", w.limit(3, 1, 0), NONE);
        due("23: no such site", w.limit(-1, 1, 0), NONE);
        for (int i = 0; i < 10; i++) {
            w.move(0, -9999, 0);
        }
        due("23: no room for one", w.limit(0, -9999, 0), 0);
        due("23: apart", w.held(3), 10);
        w.freeze(0);
        due("23: frozen", w.limit(0, 1, 0), NONE);
        w.bound(-9999999);
        due("23: above", w.limit(1, 1, 0), 0);
        due("23: no watch", new HushWatch().limit(0, 1, 0), NONE);
    }

    private static void p24would() {
        HushWatch w = Check.watch(THREE);
        int[][] dues = {{26, 0, 0, 0}, {30, 5, 1, 1}, {54, 8, 2, 1}, {78, 8, 2, 1}, {79, 8, 2, 2}};
        for (int[] due : dues) {
            for (int what = 0; what < 3; what++) {
                due("24: would(0, " + due[0] + ", 0, " + what + ")", w.would(0, due[0], 0, what), due[what + 1]);
            }
        }
        due("24: apart", w.most(0), 0);
        due("24: apart", w.held(4), 0);
        due("24: no such", w.would(0, 1, 0, 3), NONE);
        due("24: no such", w.would(0, 1, 0, -1), NONE);
        due("24: no such site", w.would(3, 1, 0, 0), NONE);
        due("24: both are 0", w.would(0, 0, 0, 0), NONE);
        due("24: out of bounds", w.would(0, 0, 10000, 0), NONE);
        due("24: no status", w.status(0) + w.status(1) + w.status(2), 0);
        w.freeze(0);
        due("24: frozen", w.would(0, 1, 0, 0), NONE);
        w.bound(1);
        due("24: above: messages", w.would(1, -1, 0, 0), 6);
        due("24: above: nobody is asked", w.would(1, -1, 0, 1), 0);
        due("24: above: all heard", w.would(1, -1, 0, 2), 2);
    }

    private static void p25asked() {
        HushWatch w = Check.watch("bound 10;site 0,0;site 0,0;site 0,0;site 0,0");
        w.freeze(3);
        due("25: the first", w.asked(2, 5, 0, 0), 0);
        due("25: the second", w.asked(2, 5, 0, 1), 1);
        due("25: no third", w.asked(2, 5, 0, 2), NONE);
        due("25: no such", w.asked(2, 5, 0, -1), NONE);
        due("25: all of them, in vain", w.asked(1, 500, 0, 1), 0);
        due("25: quiet", w.asked(2, 2, 0, 0), NONE);
        due("25: no such site", w.asked(4, 5, 0, 0), NONE);
        due("25: both are 0", w.asked(2, 0, 0, 0), NONE);
        due("25: frozen", w.asked(3, 5, 0, 0), NONE);
        due("25: apart", w.most(1), 0);
        w.bound(0);
        due("25: above", w.asked(2, 5, 0, 0), NONE);
        due("25: no watch", new HushWatch().asked(0, 1, 0, 0), NONE);
    }

    private static void p26walk() {
        HushWatch w = Check.watch(THREE);
        HushWatch done = Check.watch(THREE);
        int messages = 0;
        for (int i = 0; i < 30; i++) {
            messages += done.move(1, 7, -2);
        }
        due("26: messages", w.walk(1, 7, -2, 30, 0), messages);
        due("26: how often it would speak", w.walk(1, 7, -2, 30, 1), done.most(1));
        due("26: how often it can be moved", w.walk(1, 7, -2, 30, 2), 30);
        due("26: it ends where it can't", w.walk(0, 0, -9999, 99, 2), 10);
        due("26: nothing is said there", w.walk(0, 0, -9999, 99, 0), 0);
        due("26: apart", w.most(0) + w.held(3), 0);
        due("26: the edge", w.walk(0, 1, 0, 1, 2), 1);
        due("26: out of bounds", w.walk(0, 1, 0, 0, 2), NONE);
        due("26: out of bounds", w.walk(0, 1, 0, 100, 2), NONE);
        due("26: out of bounds", w.walk(0, 10000, 0, 1, 2), NONE);
        due("26: both are 0", w.walk(0, 0, 0, 1, 2), NONE);
        due("26: no such", w.walk(0, 1, 0, 1, 3), NONE);
        due("26: no such", w.walk(0, 1, 0, 1, -1), NONE);
        due("26: no such site", w.walk(3, 1, 0, 1, 0), NONE);
        w.freeze(0);
        due("26: frozen", w.walk(0, 1, 0, 1, 0), NONE);
        due("26: no watch", new HushWatch().walk(0, 1, 0, 1, 0), NONE);
    }

    private static void p27partner() {
        HushWatch w = Check.watch(THREE);
        due("27: quiet", w.partner(0, 26, 0), NONE);
        due("27: the least number", w.partner(1, 27, 0), 0);
        due("27: the least number", w.partner(0, 27, 0), 1);
        w.move(1, 26, 0);
        due("27: that one would not do", w.partner(0, 30, 0), 2);
        due("27: two of them are too few", w.partner(0, 54, 0), NONE);
        w.freeze(2);
        due("27: it is frozen", w.partner(0, 30, 0), NONE);
        due("27: frozen itself", w.partner(2, 30, 0), NONE);
        due("27: no such site", w.partner(3, 30, 0), NONE);
        due("27: out of bounds", w.partner(0, 10000, 0), NONE);
        due("27: apart", w.most(1), 0);
        w.bound(1);
        due("27: above", w.partner(0, 30, 0), NONE);
        due("27: no watch", new HushWatch().partner(0, 30, 0), NONE);
    }

    private static void p28race() {
        HushWatch w = Check.watch(THREE);
        due("28: the first", w.race(5, 0, 0), 0);
        due("28: moves, that one, too", w.race(5, 0, 1), 16);
        w.move(1, 5, 0);
        due("28: site 1 is nearer", w.race(5, 0, 0), 1);
        due("28: moves", w.race(5, 0, 1), 14);
        w.freeze(0);
        due("28: frozen ones don't move", w.race(5, 0, 1), 9);
        due("28: nobody speaks in 200 moves each", w.race(-1, 0, 0), NONE);
        due("28: one can't be moved", w.race(-9999, 1, 1), NONE);
        due("28: both are 0", w.race(0, 0, 0), NONE);
        due("28: out of bounds", w.race(10000, 0, 0), NONE);
        due("28: out of bounds", w.race(0, -10000, 0), NONE);
        due("28: no such", w.race(5, 0, 2), NONE);
        due("28: no such", w.race(5, 0, -1), NONE);
        due("28: apart", w.held(3), 2);
        w.bound(1);
        due("28: above, the first that is not frozen", w.race(-1, 0, 0), 1);
        due("28: above, at once", w.race(-1, 0, 1), 1);
        due("28: no watch", new HushWatch().race(1, 0, 0), NONE);
        HushWatch slow = Check.watch("bound 399;site 0,0;site 0,0");
        due("28: the 200th move of the first", slow.race(1, 0, 1), 399);
        slow.bound(402);
        due("28: a 201st is not done", slow.race(1, 0, 1), NONE);
    }

    private static void p29needs() {
        HushWatch w = Check.watch(THREE);
        due("29: one more than the value", w.needs(0, 30, 0), 111);
        due("29: below nought, too", w.needs(0, -100, 0), -279);
        w.law(1);
        due("29: squares", w.needs(0, 9999, -9999), 30007L * 30007 + 29987L * 29987 + 1);
        due("29: no such site", w.needs(3, 1, 0), HIDDEN);
        due("29: both are 0", w.needs(0, 0, 0), HIDDEN);
        due("29: out of bounds", w.needs(0, 10000, 0), HIDDEN);
        w.freeze(0);
        due("29: frozen", w.needs(0, 1, 0), HIDDEN);
        due("29: no watch", new HushWatch().needs(0, 1, 0), HIDDEN);
    }

    private static void p30span() {
        HushWatch w = Check.watch(THREE);
        due("30: the greatest on x", w.span(0, 0, true), 26);
        due("30: the least on x", w.span(0, 0, false), -200);
        w.move(0, 0, 20);
        due("30: the greatest on y", w.span(0, 1, true), 6);
        w.law(2);
        due("30: most: 10, 30 and 3 times k", w.span(0, 1, true), 23);
        due("30: most: 10, 30 and 3 times k", w.span(0, 1, false), -43);
        w.bound(9999999);
        due("30: 200 at most", w.span(0, 1, true), 200);
        due("30: no such axis", w.span(0, 2, true), HIDDEN);
        due("30: no such axis", w.span(0, -1, true), HIDDEN);
        due("30: no such site", w.span(3, 0, true), HIDDEN);
        due("30: no such site", w.span(-1, 0, true), HIDDEN);
        w.bound(0);
        due("30: above", w.span(0, 0, true), 0);
        due("30: above", w.span(0, 0, false), 0);
        due("30: no watch", new HushWatch().span(0, 0, true), HIDDEN);
    }

    private static void p31goes() {
        // The goals are such that no object is used for more than 512 calls.
        String[] texts = {THREE, "goal 449;site 1,1;site 2,2", "goal 5;site 1,1;site 2,2",
            "goal 433;site 0,0;site 0,0;site 0,0;site 0,0;site 0,0;site 0,0;site 0,0;site 0,0"};
        for (String text : texts) {
            HushWatch w = Check.watch(text);
            w.add(1, 2);
            w.add(0, 1);
            int times = w.goes(1, 0);
            int messages = w.goes(1, 1);
            due("31: apart", w.held(3), 2);
            int sent = w.most(0);
            for (int done = 0; done < times; done++) {
                if (done % 100 == 99) {
                    due("31: not yet reached", w.count(4), 0);
                }
                w.add(1, 1);
            }
            due("31: " + text + ": reached", w.count(4), 1);
            due("31: " + text + ": messages", w.most(0) - sent, messages);
            w.undo();
            due("31: " + text + ": not before", w.count(4), 0);
            due("31: one more", w.goes(1, 0), 1);
            due("31: no such", w.goes(1, 2), NONE);
            due("31: no such", w.goes(1, -1), NONE);
            due("31: no such site", w.goes(w.rule(3), 0), NONE);
            due("31: no such site", w.goes(-1, 0), NONE);
            w.add(1, 1);
            due("31: reached", w.goes(1, 0), NONE);
        }
        due("31: no watch", new HushWatch().goes(0, 0), NONE);
        HushWatch far = Check.watch("goal 9999;site 1,1;site 2,2");
        far.add(1, 2);
        far.add(0, 1);
        due("31: 9999 less the 3 that are there", far.goes(1, 0), 9996);
        // KNOWN 4999, 7499, 8749, 9373, 9685, 9841, 9919, 9959, 9979, 9989, 9993, 9995, 9997, then 2 at once.
        due("31: thirteen rounds of two signals and four more", far.goes(1, 1), 13 * 6 + 2);
    }

    private static void p32fair() {
        HushWatch w = Check.watch(THREE);
        due("32: of several the lowest", w.fair(0), 0);
        due("32: of several the lowest", w.fair(1), 0);
        w.move(1, 3, 0);
        due("32: its point has the greatest value", w.fair(0), 1);
        due("32: no slack", w.fair(1), 0);
        w.move(2, 33, 0);
        due("32: 33 and 0 are shared, 17 and 16", w.site(0, 6) * 100 + w.site(1, 6), 1703);
        due("32: the greatest value", w.fair(0), 0);
        due("32: the longest slack, of several the lowest", w.fair(1), 0);
        w.sync();
        w.move(1, 0, 20);
        due("32: both axes added up", w.site(1, 5) + w.site(2, 5), 0);
        due("32: no such", w.fair(2), NONE);
        due("32: no such", w.fair(-1), NONE);
        due("32: no watch", new HushWatch().fair(0), NONE);
    }

    private static void p33spell() {
        HushWatch w = Check.watch("site -7,12;site 0,-999");
        String first = "site 0 at -7,12";
        due("33: how many", w.spell(0, NONE), first.length());
        Check.due("33: " + Check.spelled(w, 0), Check.spelled(w, 0).equals(first), true);
        Check.due("33: " + Check.spelled(w, 1), Check.spelled(w, 1).equals("site 1 at 0,-999"), true);
        due("33: behind the last", w.spell(0, first.length()), NONE);
        due("33: no such", w.spell(0, -2), NONE);
        due("33: no such site", w.spell(2, 0), NONE);
        due("33: no such site", w.spell(-1, NONE), NONE);
        due("33: no watch", new HushWatch().spell(0, NONE), NONE);
    }

    private static void p34step() {
        HushWatch w = new HushWatch();
        Check.script(w, "move 1,-2,3;add 4,5;bound -6;law most;sync;goal 7;freeze 8");
        int[][] dues = {{0, 1, -2, 3}, {1, 4, 5, HIDDEN}, {2, -6, HIDDEN, HIDDEN}, {3, 2, HIDDEN, HIDDEN},
            {4, HIDDEN, HIDDEN, HIDDEN}, {5, 7, HIDDEN, HIDDEN}, {6, 8, HIDDEN, HIDDEN}};
        for (int i = 0; i < dues.length; i++) {
            for (int what = 0; what < 4; what++) {
                due("34: step(0, " + i + ", " + what + ")", w.step(0, i, what), dues[i][what]);
            }
        }
        due("34: no such step", w.step(0, 7, 0), HIDDEN);
        due("34: no such step", w.step(0, -1, 0), HIDDEN);
        due("34: no such script", w.step(1, 0, 0), HIDDEN);
        due("34: no such script", w.step(-1, 0, 0), HIDDEN);
        due("34: no such", w.step(0, 0, 4), HIDDEN);
        due("34: no such", w.step(0, 0, -1), HIDDEN);
        Check.script(w, "sync;law sum;law square;law taxi");
        due("34: the second script", w.step(1, 0, 0), 4);
        due("34: sum", w.step(1, 1, 1), 0);
        due("34: square", w.step(1, 2, 1), 1);
        due("34: taxi", w.step(1, 3, 1), 3);
        due("34: no more steps than told", w.step(1, 4, 0), HIDDEN);
        due("34: the first stays", w.step(0, 6, 1), 8);
    }

    private static void p35run() {
        HushWatch w = new HushWatch();
        Check.script(w, "move 0,30,0;sync;add 0,9;bound 7;bound 7;sync");
        Check.script(w, "move 0,30,0;add 1,5");
        Check.script(w, "goal 0;sync");
        due("35: no watch", w.run(0, 0), HIDDEN);
        Check.tape(w, THREE);
        w.text(0);
        due("35: the fifth can't be", w.run(0, 0), 4);
        due("35: messages of those ahead", w.run(0, 1), 5 + 6 + 9 + 6);
        due("35: all can be", w.run(1, 0), NONE);
        due("35: messages of all", w.run(1, 1), 6);
        due("35: the first can't be", w.run(2, 0), 0);
        due("35: none", w.run(2, 1), 0);
        due("35: apart", w.most(0) + w.held(3) + w.status(1), 0);
        due("35: no such script", w.run(3, 0), HIDDEN);
        due("35: no such script", w.run(-1, 0), HIDDEN);
        due("35: no such", w.run(0, 2), HIDDEN);
        due("35: no such", w.run(0, -1), HIDDEN);
    }

    private static void p36perform() {
        HushWatch w = new HushWatch();
        Check.script(w, "move 0,30,0;sync;add 0,9;bound 7;bound 7;sync");
        Check.script(w, "freeze 1;law taxi;goal 5");
        Check.script(w, "move 0,99999,0");
        due("36: no watch", w.perform(0), NONE);
        Check.tape(w, THREE);
        w.text(0);
        due("36: up to there", w.perform(0), 4);
        due("36: as acts", w.held(4), 4);
        due("36: logged", w.log(0, 0), 2);
        due("36: messages", w.most(0), 26);
        due("36: no status", w.status(2), 0);
        due("36: all", w.perform(1), 3);
        due("36: frozen", w.most(11), 2);
        due("36: law", w.rule(0), 3);
        due("36: goal", w.rule(2), 5);
        due("36: none", w.perform(2), 0);
        due("36: no status", w.status(1), 0);
        due("36: undone one by one", w.undo(), 6);
        due("36: no such script", w.perform(3), NONE);
        due("36: no such script", w.perform(-1), NONE);
        due("36: no status", w.status(0), 0);
    }

    private static void p37most() {
        HushWatch w = Check.watch(THREE);
        w.move(0, 27, 1);
        w.move(2, 1, 0);
        w.freeze(2);
        int[] dues = {5, 1, 1, 0, 0, 0, 7, 3, 0, 0, 2, 4};
        for (int what = 0; what < 12; what++) {
            due("37: most(" + what + ")", w.most(what), dues[what]);
        }
        w.move(1, 9999, 0);
        int[] then = {5 + 7, 2, 1, 1, 1, 1, 7, 0, 0, 0, 7, 4};
        for (int what = 0; what < 12; what++) {
            due("37: then most(" + what + ")", w.most(what), then[what]);
        }
        w.undo();
        w.move(1, 1, 0);
        w.move(1, -1, 0);
        due("37: there and back is not moved", w.most(10), 2);
        due("37: no such", w.most(12), HIDDEN);
        due("37: no such", w.most(-1), HIDDEN);
        due("37: no watch", new HushWatch().most(0), HIDDEN);
        due("37: above at first, not crossed", Check.watch("bound 0;site 0,0;site 0,0").most(5), 1);
        due("37: above at first, not crossed", Check.watch("bound 0;site 0,0;site 0,0").most(4), 0);
    }

    private static void p38image() {
        HushWatch w = Check.watch(THREE);
        due("38: messages", w.image(), 0);
        w.move(0, 30, 0);
        due("38: messages", w.image(), 5);
        due("38: no act", w.held(3), 1);
        w.sync();
        due("38: instead of the one ahead", w.back(), 5);
        due("38: instead of the one ahead", w.most(2), 1);
        due("38: no watch", new HushWatch().image(), NONE);
    }

    private static void p39back() {
        HushWatch w = Check.watch(THREE);
        due("39: no image", w.back(), NONE);
        w.move(0, 30, 0);
        w.add(2, 4);
        w.freeze(1);
        w.image();
        w.freeze(1);
        w.bound(1);
        w.law(3);
        w.goal(9);
        for (int i = 0; i < 150; i++) {
            w.sync();
        }
        due("39: messages", w.back(), 6);
        due("39: no act can be undone", w.undo(), NONE);
        due("39: no act can be undone", w.held(4), 0);
        due("39: bound", w.rule(1), 100);
        due("39: law", w.rule(0), 0);
        due("39: goal", w.rule(2), 20);
        due("39: frozen", w.most(11), 2);
        due("39: slack", w.site(0, 4), -15);
        due("39: signals", w.count(2), 1);
        due("39: rest", w.site(2, 12), 1);
        due("39: heard", w.most(3), 0);
        due("39: the log", w.held(3), 3);
        due("39: the log", w.log(1, 0), 4);
        due("39: the log", w.log(2, 2), 5);
        w.sync();
        due("39: once more", w.back(), 6);
        due("39: once more", w.held(3), 3);
        due("39: no watch", new HushWatch().back(), NONE);
    }

    private static void p40held() {
        HushWatch w = Check.watch(THREE);
        Check.script(w, "sync");
        w.sync();
        w.sync();
        w.undo();
        Check.tape(w, "abc");
        int[] dues = {3, 1, 3, 1, 1};
        for (int what = 0; what < 5; what++) {
            due("40: held(" + what + ")", w.held(what), dues[what]);
        }
        due("40: others", w.held(5), HIDDEN);
        due("40: others", w.held(-1), HIDDEN);
    }

    public static void main(String[] args) {
        p01newObject();
        p02feed();
        p03end();
        p04faultOfWatches();
        p04faultOfScripts();
        p05text();
        p06rule();
        p07site();
        p08value();
        p09tells();
        p10all();
        p11move();
        p11moveToTheEdge();
        p11partnersGoRound();
        p12freeze();
        p13sync();
        p14bound();
        p15law();
        p16add();
        p17goal();
        p18count();
        p19years();
        p20status();
        p21undo();
        p21undoTheLatestForty();
        p22log();
        p23limit();
        p24would();
        p25asked();
        p26walk();
        p27partner();
        p28race();
        p29needs();
        p30span();
        p31goes();
        p32fair();
        p33spell();
        p34step();
        p35run();
        p36perform();
        p37most();
        p38image();
        p39back();
        p40held();
        Check.finish("PromisesTest");
    }
}
