/** Part 2 of the document, UNDONE and KEPT: round and round at both ends, where it sinks and rises, how many there may be. */
public final class StepEdgesTest extends Seas {
    public static void main(String[] args) {
        roundAndRound();
        sinksOrRises();
        oneLevelAStep();
        byTheLevelItLeaves();
        caughtWhereItIsThen();
        caughtItStays();
        stepsAtOnce();
        stepsInAll();
        thingsInAll();
        letGoWhereItHangs();
        hungAtAnyOther();
        hungWhereNothingHangs();
        whatGoesWithIt();
        ropesCut();
        allRopesCut();
        undoneOne();
        undoneEight();
        keptTwo();
        keptAndUndone();
        behindAsFarAsSixty();
        caughtLate();
        meetings();
        rounds();
        calls512();
        end("all edges of STEPS hold");
    }

    private static void roundAndRound() {
        of("goes on by the CURRENT of its LEVEL (round and round)");
        for (int n : new int[] {4, 5, 12, 24}) {
            for (int c = 0; c <= 6; c++) {
                for (int start : new int[] {0, 1, n / 2, n - 2, n - 1}) {
                    HungFromIce x = sea("n" + n + ";l" + c + ",5,1;g0," + start + ",5;");
                    for (int steps : new int[] {1, 2, 59, 60}) {
                        due("behind " + steps, x.behind(steps, 0, 1), Math.floorMod(start + steps * (c - 3), n));
                    }
                    x.steps(1);
                    due("one STEP from " + start + " of " + n + " by " + c, x.thing(0, 1), Math.floorMod(start + c - 3, n));
                    x.steps(60);
                    due("61 STEPS", x.thing(0, 1), Math.floorMod(start + 61 * (c - 3), n));
                }
            }
        }
    }

    private static void levelBehind(String sea, int want) {
        HungFromIce x = sea(sea);
        due(sea + " behind 1", x.behind(1, 0, 0), want);
        x.steps(1);
        due(sea + " one STEP on", spot(x, 0), 100 * want);
    }

    private static void sinksOrRises() {
        of("down, if WEIGHT is more than WARMTH and there is one below; up, if it is less and there is one above");
        for (int w = 0; w <= 9; w++) {
            for (int g = 0; g <= 9; g++) {
                String level = "l3," + w + ",1;", other = "l3,5,1;";
                levelBehind("n4;" + other + level + other + "g1,0," + g + ";", g > w ? 2 : g < w ? 0 : 1);
                levelBehind("n4;" + level + other + "g0,0," + g + ";", g > w ? 1 : 0);
                levelBehind("n4;" + other + level + "g1,0," + g + ";", g < w ? 0 : 1);
                levelBehind("n4;" + level + "g0,0," + g + ";", 0);
            }
        }
    }

    private static void oneLevelAStep() {
        of("one LEVEL down; or one up");
        HungFromIce x = sea("n5;" + "l4,0,1;".repeat(8) + "g0,0,9;g6,4,1;");
        HungFromIce y = sea("n5;" + "l2,9,1;".repeat(8) + "g7,0,0;g1,4,8;");
        for (int n = 1; n <= 10; n++) {
            x.steps(1);
            y.steps(1);
            due("sinks", spot(x, 0), 100 * Math.min(7, n) + n % 5);
            due("sinks from 6", spot(x, 1), 700 + (4 + n) % 5);
            due("rises", spot(y, 0), 100 * Math.max(0, 7 - n) + Math.floorMod(-n, 5));
            due("rises from 1", spot(y, 1), Math.floorMod(4 - n, 5));
        }
    }

    private static void byTheLevelItLeaves() {
        of("by the CURRENT of its LEVEL; then one LEVEL down or up by WARMTH of that LEVEL");
        HungFromIce x = sea("n24;l6,4,1;l0,9,1;g0,0,5;");
        x.steps(1);
        due("3 on, then down", spot(x, 0), 103);
        x.steps(1);
        due("3 back, then up", spot(x, 0), 0);
        x.steps(2);
        due("again", spot(x, 0), 0);
        HungFromIce y = sea("n24;l3,9,1;l4,4,1;l3,0,1;g1,0,5;g1,0,3;");
        y.steps(1);
        due("sinks from a LEVEL that is colder, whatever is around", spot(y, 0), 201);
        due("rises from one that is warmer", spot(y, 1), 1);
    }

    private static void caughtWhereItIsThen() {
        of("If a TOWN is there then, it is CAUGHT by it");
        String around = "t0,0,0,0;t1,0,0,0;t0,1,0,0;";
        HungFromIce x = sea("n6;l4,4,1;l3,9,1;" + around + "t1,1,0,0;g0,0,5;");
        x.steps(1);
        due("where it has sunk to", x.thing(0, 3), 3);
        due("where it has sunk to", sea("n6;l4,4,1;l3,9,1;" + around + "g0,0,5;").behind(1, 0, 2), NONE);
        String above = "t0,1,0,0;t1,1,0,0;t0,0,0,0;";
        due("where it has risen to", sea("n6;l3,0,1;l4,9,1;" + above + "t1,0,0,0;g1,0,5;").behind(1, 0, 2), 3);
        due("nowhere else", sea("n6;l3,0,1;l4,9,1;" + above + "g1,0,5;").behind(1, 0, 2), NONE);
        due("where it stays", sea("n6;l3,5,1;t0,0,0,0;g0,0,5;").behind(1, 0, 2), 0);
        due("not where it passes", sea("n6;l6,5,1;t1,0,0,0;t2,0,0,0;g0,0,5;").behind(1, 0, 2), NONE);
        due("3 on", sea("n6;l6,5,1;t1,0,0,0;t2,0,0,0;t3,0,0,0;g0,0,5;").behind(1, 0, 2), 2);
        due("past the last PLACE", sea("n6;l4,5,1;t0,0,0,0;g0,5,5;").behind(1, 0, 2), 0);
        due("past the first PLACE", sea("n6;l2,5,1;t5,0,0,0;g0,0,5;").behind(1, 0, 2), 0);
        String six = "t0,0,0,0;t1,0,0,0;t2,0,0,0;t3,0,0,0;t4,0,0,0;t5,0,0,0;";
        for (int t = 0; t < 6; t++) due("by each of six", sea("n6;l4,5,1;" + six + "g0," + (t + 5) % 6 + ",5;").behind(1, 0, 2), t);
        HungFromIce y = sea("n6;l4,5,1;t3,0,0,0;g0,2,5;g0,1,5;g0,2,5;");
        y.steps(1);
        due("two at once", y.thing(0, 3) * 10 + y.thing(2, 3), 0);
        due("one not yet", y.thing(1, 3), NONE);
        y.steps(1);
        due("more behind them", y.thing(1, 3), 0);
    }

    private static void caughtItStays() {
        of("it stays there from then on (it goes where the TOWN is hung)");
        HungFromIce x = sea("n6;l4,5,1;l4,9,1;t1,1,0,0;t2,1,0,0;g0,0,7;");
        x.steps(1);
        due("CAUGHT", x.thing(0, 3), 0);
        x.steps(60);
        due("61 STEPS", spot(x, 0) * 10 + x.thing(0, 3), 1010);
        x.hang(0, 5);
        due("goes along", spot(x, 0), 105);
        x.steps(60);
        due("stays there", spot(x, 0) * 10 + x.thing(0, 3), 1050);
        x.hang(1, 1);
        due("not CAUGHT by another one", x.behind(60, 0, 2), 0);
        due("WEIGHT", x.thing(0, 2), 7);
    }

    private static void stepsAtOnce() {
        of("steps: 1 to 60");
        for (int n = 1; n <= 60; n++) {
            HungFromIce x = sea("n24;l4,5,1;g0,23,5;");
            due("steps " + n, x.steps(n), n);
            due("as far", x.thing(0, 1), (23 + n) % 24);
            due("gone by", x.count(4), n);
        }
        for (int n : new int[] {0, -1, -60, 61, 62, 100, 9999, Integer.MIN_VALUE, Integer.MAX_VALUE}) {
            HungFromIce x = sea("n24;l4,5,1;g0,23,5;");
            due("steps " + n, x.steps(n), BAD);
            due("none gone by", x.count(4) * 100 + x.thing(0, 1), 23);
        }
    }

    /** The first sea, 9960 STEPS on. */
    private static HungFromIce old() {
        HungFromIce x = new HungFromIce();
        for (int i = 1; i <= 166; i++) due("STEPS", x.steps(60), 60 * i);
        return x;
    }

    private static void stepsInAll() {
        of("steps: NO: above 9999");
        for (int n = 1; n <= 60; n++) due("9960 and " + n, old().steps(n), n <= 39 ? 9960 + n : NO);
        HungFromIce x = old();
        due("to 9999", x.steps(39), 9999);
        due("one more", x.steps(1), NO);
        due("60 more", x.steps(60), NO);
        due("BAD ahead of NO", x.steps(0), BAD);
        due("BAD ahead of NO", x.steps(61), BAD);
        due("gone by", x.count(4), 9999);
        due("UNDONE", x.undo(), 7);
        due("to 9998", x.steps(38), 9998);
        due("to 9999", x.steps(1), 9999);
        due("that of the others does not count", x.letGo(0, 1), 1);
    }

    private static void thingsInAll() {
        of("7 THINGS in all at most");
        for (int told = 0; told <= 5; told++) {
            HungFromIce x = sea("n6;l3,5,1;t0,0,0,0;t1,0,0,0;" + "g0,5,5;".repeat(told));
            for (int g = told; g < 7; g++) due("letGo", x.letGo(g % 2, 9 - g), g);
            due("letGo of an 8th", x.letGo(0, 5), FULL);
            due("cut to an 8th", x.cut(0), FULL);
            due("THINGS", x.count(3), 7);
            due("no THING 7", x.thing(7, 0), BAD);
            due("one less", x.undo(), 7 - told - 1);
            due("cut to the 7th", x.cut(0), 6);
            due("letGo of an 8th", x.letGo(1, 5), FULL);
            due("cut to an 8th", x.cut(1), FULL);
            due("NO ahead of FULL", x.cut(0) * 10 + x.letGo(0, 5), 11 * NO);
        }
    }

    private static void letGoWhereItHangs() {
        of("A THING can be LET GO at a TOWN, CAUGHT by nobody as yet");
        for (int g = 0; g <= 9; g++) {
            HungFromIce x = sea("n6;l3,5,1;l3,5,1;t0,0,0,0;t4,1,0,0;");
            x.hang(1, 5);
            due("letGo", x.letGo(1, g), 0);
            due("where it hangs", spot(x, 0), 105);
            due("WEIGHT", x.thing(0, 2), g);
            due("by nobody as yet", x.thing(0, 3), NONE);
            x.steps(1);
            due("CAUGHT if it stays", x.thing(0, 3), g < 5 ? NONE : 1);
        }
    }

    private static void hungAtAnyOther() {
        of("A TOWN can be HUNG at another PLACE of its LEVEL");
        for (int n : new int[] {4, 12, 24}) {
            HungFromIce x = sea("n" + n + ";l3,5,1;l3,5,1;t0,1,0,0;");
            for (int i = 1; i <= n; i++) {
                due("hang", x.hang(0, i % n), i - 1);
                due("LEVEL, PLACE", x.town(0, 0) * 100 + x.town(0, 1), 100 + i % n);
                due("where it is", x.hang(0, i % n), NO);
            }
            due("to the last from the first", x.hang(0, n - 1), 0);
            due("too far", x.hang(0, n), BAD);
            due("too far", x.hang(0, -1), BAD);
            due("it hangs", x.town(0, 1), n - 1);
        }
    }

    private static void hungWhereNothingHangs() {
        of("HUNG, if no TOWN and no MARKET is there");
        String towns = "t0,0,0,0;t1,0,0,0;t2,0,0,0;t3,0,0,0;t4,0,0,0;t5,0,0,0;";
        String markets = "m0,8;m0,9;m0,10;m0,11;m0,12;m0,13;m0,14;m0,15;";
        for (int t = 0; t < 6; t++) {
            HungFromIce x = sea("n24;l3,5,1;l3,5,1;" + towns + markets);
            for (int at = 0; at <= 5; at++) due("hang where TOWN " + at + " is", x.hang(t, at), NO);
            due("next to the TOWNS", x.hang(t, 6), t);
            due("next to the MARKETS", x.hang(t, 7), 6);
            for (int at = 8; at <= 15; at++) due("hang where a MARKET is", x.hang(t, at), NO);
            due("behind the MARKETS", x.hang(t, 16), 7);
            due("where it was at first", x.hang(t, t), 16);
            due("that many can be UNDONE", x.count(7), 4);
        }
        HungFromIce y = sea("n24;l3,5,1;l3,5,1;t0,0,0,0;t1,1,0,0;m1,2;g0,3,5;");
        due("where a TOWN is at another LEVEL", y.hang(0, 1), 0);
        due("where a MARKET is at another LEVEL", y.hang(0, 2), 1);
        due("where a THING is", y.hang(0, 3), 2);
        due("that is not CAUGHT as yet", y.thing(0, 3), NONE);
        due("but behind a STEP", y.behind(1, 0, 2), 0);
        HungFromIce z = sea("n24;l3,5,1;t0,0,0,0;t1,0,0,0;t2,0,0,0;");
        due("a TOWN", z.hang(0, 1), NO);
        z.cut(1);
        due("a CUT one is none", z.hang(0, 1), 0);
        due("where one hung before", z.hang(2, 0), 2);
        due("where one hangs now", z.hang(2, 1), NO);
        due("a CUT one cannot be HUNG", z.hang(1, 5), NO);
    }

    private static void whatGoesWithIt() {
        of("what it has CAUGHT goes with it");
        HungFromIce x = sea("n6;l3,5,1;l3,5,1;t2,0,0,0;t4,0,0,0;t2,1,0,0;g0,2,5;g0,4,5;g1,2,5;g0,2,5;");
        x.steps(1);
        x.letGo(0, 5);
        due("by whom", x.thing(0, 3) * 1000 + x.thing(1, 3) * 100 + x.thing(2, 3) * 10 + x.thing(3, 3), 120);
        x.hang(0, 0);
        int[] want = {0, 4, 102, 0, 2};
        for (int g = 0; g < 5; g++) due("THING " + g, spot(x, g), want[g]);
        due("the one LET GO is nobody's", x.thing(4, 3), NONE);
        x.hang(0, 5);
        for (int g = 0; g < 5; g++) due("THING " + g + " again", spot(x, g), want[g] == 0 ? 5 : want[g]);
    }

    private static void ropesCut() {
        of("CUT: it is no TOWN any more, but the last THING, of WEIGHT 9, there; what it had CAUGHT is there and CAUGHT by nobody");
        HungFromIce x = sea("n6;l4,5,1;l4,9,1;t2,0,0,0;t4,0,0,0;t0,1,0,0;g0,1,5;g0,3,5;g0,1,5;");
        x.steps(1);
        x.hang(0, 3);
        due("cut", x.cut(0), 3);
        due("the last THING", spot(x, 3), 3);
        due("WEIGHT", x.thing(3, 2), 9);
        due("by nobody", x.thing(3, 3), NONE);
        due("what it had is there", spot(x, 0) * 1000 + spot(x, 2), 3003);
        due("by nobody", x.thing(0, 3) * 10 + x.thing(2, 3), 11 * NONE);
        due("another one keeps its own", x.thing(1, 3), 1);
        due("where it was", x.town(0, 0) * 100 + x.town(0, 1), 3);
        due("CUT", x.town(0, 4) * 100 + x.town(1, 4) * 10 + x.town(2, 4), 100);
        due("told all the same", x.count(2), 3);
        x.steps(1);
        due("what it had drifts on", spot(x, 0), 4);
        due("to be CAUGHT by another one", x.thing(0, 3), 1);
        due("it sinks", spot(x, 3), 104);
        due("the TOWN stays where it was", x.town(0, 1), 3);
        x.steps(2);
        due("it is CAUGHT", x.thing(3, 3), 2);
        due("it catches none", sea("n6;l4,5,1;t2,0,0,0;g0,1,5;").behind(1, 0, 2), 0);
        HungFromIce y = sea("n6;l4,5,1;t2,0,0,0;g0,1,5;");
        y.cut(0);
        due("it catches none any more", y.behind(60, 0, 2), NONE);
    }

    private static void allRopesCut() {
        of("TOWNS: told ones, CUT ones, too");
        HungFromIce x = sea("n6;l3,5,1;t0,0,1,2;t1,0,1,2;t2,0,1,2;t3,0,1,2;t4,0,1,2;t5,0,1,2;");
        for (int t = 0; t < 6; t++) due("cut", x.cut(t), t);
        for (int t = 0; t < 6; t++) {
            due("told", x.town(t, 1) * 100 + x.town(t, 2) * 10 + x.town(t, 3), 100 * t + 12);
            due("CUT", x.town(t, 4), 1);
            due("cut again", x.cut(t), NO);
            due("letGo", x.letGo(t, 0), NO);
            due("hang", x.hang(t, t), NO);
            due("hears", x.hears(t, 99), NO);
            due("shadow", x.shadow(t), NO);
            due("heard", x.heard(t, 0), NO);
            due("fall", x.fall(t, 0), NO);
            due("sent", x.sent(t, (t + 1) % 6, 0), NO);
            due("year", x.year(0, 1, t), NO);
        }
        due("TOWNS told", x.count(2), 6);
        due("no TOWN 6", x.town(6, 4), BAD);
        due("year by any", x.year(0, 60, -1), 0);
        due("none to be hung elsewhere", x.moved(0, 0), 0);
        due("none that pays", x.clear(0, 0), NONE);
        due("a THING goes free", x.behind(60, 5, 2), NONE);
    }

    private static void undoneOne() {
        of("UNDONE is the latest steps(), letGo(), hang(), cut()");
        HungFromIce x = sea("n6;l4,5,1;l4,9,1;t2,0,0,0;t4,0,0,0;g0,1,5;g0,5,7;");
        x.steps(1);
        x.undo();
        due("of steps: where they were", spot(x, 0) * 1000 + spot(x, 1), 1005);
        due("by nobody", x.thing(0, 3), NONE);
        due("STEPS", x.count(4), 0);
        x.steps(1);
        x.hang(0, 5);
        x.undo();
        due("of hang: the TOWN", x.town(0, 1), 2);
        due("of hang: what went with it", spot(x, 0), 2);
        x.cut(0);
        x.undo();
        due("of cut: the TOWN", x.town(0, 4), 0);
        due("of cut: what it had", x.thing(0, 3), 0);
        due("of cut: the THING that it was", x.count(3), 2);
        x.letGo(1, 9);
        x.undo();
        due("of letGo: the THING", x.count(3), 2);
        due("of letGo: no number any more", x.thing(2, 0), BAD);
        due("STEPS stay", x.count(4), 1);
        due("one left", x.undo(), 0);
        due("none left", x.undo(), NO);
        due("none left", x.undo(), NO);
        due("as at first", spot(x, 0) * 1000 + spot(x, 1), 1005);
    }

    private static void undoneEight() {
        of("UNDONE: the last 8 can be");
        for (int many = 0; many <= 20; many++) {
            HungFromIce x = sea("n24;l4,5,1;t0,0,0,0;g0,1,5;");
            for (int i = 0; i < many; i++) x.hang(0, i + 1);
            int left = Math.min(8, many);
            due("can be UNDONE of " + many, x.count(7), left);
            for (int i = 1; i <= left; i++) {
                due("undo", x.undo(), left - i);
                due("hung at", x.town(0, 1), many - i);
            }
            due("one more", x.undo(), NO);
            due("hung at", x.town(0, 1), many - left);
        }
        HungFromIce y = sea("n24;l4,5,1;t0,0,0,0;t12,0,0,0;");
        for (int i = 0; i < 5; i++) {
            y.steps(1);
            y.hang(0, 2 * i + 1);
        }
        y.undo();
        y.undo();
        y.letGo(0, 3);
        y.cut(1);
        y.steps(7);
        due("mixed: at most", y.count(7), 8);
        for (int i = 7; i >= 0; i--) due("mixed: undo", y.undo(), i);
        due("mixed: the first three stay", y.count(4) * 100 + y.town(0, 1), 201);
        due("mixed: one more", y.undo(), NO);
    }

    private static void keptTwo() {
        of("KEPT are THINGS, TOWNS, STEPS gone by: 2 at most");
        HungFromIce x = sea("n24;l4,5,1;t0,0,0,0;t12,0,0,0;g0,1,5;");
        due("none KEPT", x.back(), NO);
        due("keep", x.keep(), 1);
        x.steps(3);
        x.hang(0, 9);
        x.cut(1);
        due("keep", x.keep(), 2);
        x.steps(1);
        x.letGo(0, 0);
        due("a third one", x.keep(), FULL);
        due("KEPT", x.count(8), 2);
        due("back", x.back(), 1);
        due("THINGS, TOWNS, STEPS as KEPT last", x.count(3) * 10000 + x.town(0, 1) * 1000 + x.town(1, 4) * 100 + x.count(4), 29103);
        due("THING", spot(x, 0), 4);
        due("THING", spot(x, 1), 12);
        due("keep again", x.keep(), 2);
        due("a third one", x.keep(), FULL);
        due("back", x.back(), 1);
        due("back", x.back(), 0);
        due("THINGS, TOWNS, STEPS as KEPT first", x.count(3) * 10000 + x.town(0, 1) * 1000 + x.town(1, 4) * 100 + x.count(4), 10000);
        due("THING", spot(x, 0), 1);
        due("none KEPT any more", x.back(), NO);
        due("keep", x.keep(), 1);
    }

    private static void keptAndUndone() {
        of("back: nothing is UNDONE then");
        HungFromIce x = sea("n24;l4,5,1;t0,0,0,0;t12,0,0,0;g0,1,5;");
        x.steps(1);
        x.steps(2);
        x.keep();
        due("keep leaves what can be UNDONE", x.count(7), 2);
        due("undo leaves what is KEPT", x.undo() * 10 + x.count(8), 11);
        x.heard(0, 9);
        x.drifted(0, 0, 1, 1);
        x.wipe();
        x.write('n');
        due("back", x.back(), 0);
        due("as KEPT", x.count(4) * 100 + spot(x, 0), 304);
        due("none can be UNDONE", x.count(7), 0);
        due("undo", x.undo(), NO);
        due("HEARD, DRIFTED, THE TEXT stay", x.count(5) * 100 + x.count(6) * 10 + x.count(9), 111);
        for (int i = 0; i < 9; i++) x.steps(1);
        due("8 again", x.count(7), 8);
        for (int i = 7; i >= 0; i--) due("undo", x.undo(), i);
        due("the first of 9 stays", x.count(4), 4);
        HungFromIce y = new HungFromIce();
        y.keep();
        y.keep();
        y.undo();
        due("undo is no back", y.count(8), 2);
    }

    private static void behindAsFarAsSixty() {
        of("BEHIND n STEPS (0 to 60)");
        for (int n = 0; n <= 60; n++) {
            String text = "n24;l4,4,1;l4,6,1;l0,9,1;t3,1,0,0;g0,0,5;g0,22,4;g0,1,7;";
            HungFromIce x = sea(text), y = sea(text);
            if (n > 0) y.steps(n);
            for (int g = 0; g < 3; g++) {
                due("LEVEL behind " + n, x.behind(n, g, 0), y.thing(g, 0));
                due("PLACE behind " + n, x.behind(n, g, 1), y.thing(g, 1));
                due("TOWN behind " + n, x.behind(n, g, 2), y.thing(g, 3));
            }
        }
        HungFromIce x = sea("n24;l4,5,1;g0,23,5;");
        due("now", x.behind(0, 0, 1), 23);
        due("59", x.behind(59, 0, 1), 10);
        due("60", x.behind(60, 0, 1), 11);
        due("61", x.behind(61, 0, 1), BAD);
        due("-1", x.behind(-1, 0, 1), BAD);
    }

    private static void caughtLate() {
        of("BEHIND 60 STEPS or fewer: the longest way that can be is of 53");
        HungFromIce x = sea(LONG_WAY + "t0,7,0,0;g0,0,5;");
        due("behind 52", x.behind(52, 0, 2), NONE);
        due("behind 53", x.behind(53, 0, 2), 0);
        x.steps(52);
        due("52 STEPS", x.thing(0, 3), NONE);
        x.steps(1);
        due("53 STEPS", x.thing(0, 3), 0);
    }

    private static void meetings() {
        of("MEET: behind how many STEPS (0 to 60) two THINGS, neither CAUGHT, are first at one LEVEL and PLACE");
        HungFromIce x = sea(LONG_WAY + "g0,0,5;g7,0,6;g7,1,6;g0,0,5;g0,1,5;");
        due("as late as can be", x.meet(0, 1), 53);
        due("as well", x.meet(1, 0), 53);
        due("as soon as it is there", x.meet(0, 2), 7);
        due("now", x.meet(0, 3), 0);
        due("never", x.meet(1, 2), NONE);
        due("never, on one way", x.meet(0, 4), NONE);
        x.steps(7);
        due("first again", x.meet(0, 2), 0);
        x.steps(1);
        due("47 behind it", x.meet(0, 2), 47);
        HungFromIce y = sea("n8;l4,5,1;l3,9,1;t4,0,0,0;g0,3,5;g0,3,5;g0,2,5;g1,3,9;g1,4,9;");
        due("now, ahead of being CAUGHT", y.meet(0, 1), 0);
        due("at one LEVEL, not at one PLACE", y.meet(0, 2), NONE);
        due("at one PLACE, not at one LEVEL", y.meet(0, 3), NONE);
        y.steps(1);
        due("both CAUGHT", y.meet(0, 1), NONE);
        due("the first CAUGHT", y.meet(0, 2), NONE);
        due("the second CAUGHT", y.meet(2, 0), NONE);
        HungFromIce z = sea("n8;l4,5,1;l3,6,1;t3,1,0,0;g0,2,6;g1,3,6;g1,4,6;");
        due("CAUGHT as they would meet", z.meet(0, 1), NONE);
        due("CAUGHT ahead of it", z.meet(0, 2), NONE);
        z.cut(0);
        due("nobody catches", z.meet(0, 1), 1);
    }

    private static void rounds() {
        of("ROUND: the fewest STEPS n (1 to 200) such that BEHIND 200 and n STEPS it is where it is BEHIND 200");
        for (int n = 4; n <= 24; n++) {
            for (int c = 0; c <= 6; c++) {
                long want = n / commonDivisor(n, Math.abs(c - 3));
                HungFromIce x = sea("n" + n + ";l" + c + ",5,1;t0,0,0,0;g0,1,5;");
                due("round by " + c + " in " + n, x.round(0), want);
                x.steps(60);
                due("the same, CAUGHT or not", x.round(0), want);
                for (int d = 0; d <= 6; d += 3) {
                    long both = 2 * n / commonDivisor(n, Math.abs(c + d - 6));
                    due("round by " + c + " and " + d, sea("n" + n + ";l" + c + ",4,1;l" + d + ",6,1;g0,1,5;").round(0), both);
                }
            }
        }
        due("the longest", sea("n24;l3,4,1;l4,6,1;g0,1,5;").round(0), 48);
        due("the shortest", sea("n24;l3,5,1;g0,1,5;").round(0), 1);
        due("behind the way there", sea(LONG_WAY + "g0,0,5;").round(0), 48);
        due("behind the way there", sea(LONG_WAY + "g0,0,6;").round(0), 1);
    }

    private static void calls512() {
        of("used for at most 512 calls");
        HungFromIce x = new HungFromIce();
        for (int i = 1; i <= 256; i++) {
            int to = i % 12, from = (i + 11) % 12;
            due("call " + (2 * i - 1), x.hang(0, to), from);
            due("call " + 2 * i, x.count(7), Math.min(8, i));
        }
        HungFromIce y = new HungFromIce();
        for (int i = 1; i <= 511; i++) due("call " + i, y.shadow(i % 2), 0);
        due("call 512", y.steps(60), 60);
    }
}
