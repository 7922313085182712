/** Part 3 of the document: beats, what is shut out, HEARD, WHENCE and MOVED, from the least to the most. */
public final class SoundEdgesTest extends Seas {
    /** Shut from top to bottom at PLACE 0, so that there is no way round: 22 PLACES and 7 LEVELS of 9 beats. */
    private static final String SHUT = "n24;" + "l3,0,9;".repeat(8)
        + "m0,0;m1,0;m2,0;m3,0;m4,0;m5,0;m6,0;m7,0;t1,0,0,0;t23,7,0,0;t22,7,0,0;";
    /** TOWN 0 shut in, but for the ice: up 3 LEVELS, 4 PLACES to the only way out, down 7, round to the others. */
    private static final String FARTHEST = "n24;" + "l3,0,9;".repeat(8)
        + "m0,6;m1,0;m1,6;m2,1;m2,5;m3,2;m3,4;m4,3;t3,3,0,0;t4,7,0,0;t5,7,0,0;t11,7,0,0;";
    private static final String SIX = "t0,0,0,0;t1,0,0,0;t2,0,0,0;t3,0,0,0;t4,0,0,0;t5,0,0,0;";

    public static void main(String[] args) {
        eitherWayRound();
        fromLevelToLevel();
        throughTheLevels();
        neverIntoAMarket();
        noWay();
        farthest();
        hearsWithin();
        hearsOthers();
        shadows();
        heardSix();
        whenceAnywhere();
        whenceTheLowest();
        whenceOneBeat();
        whenceAsTheyHang();
        movedNone();
        movedOne();
        movedTwo();
        movedThree();
        movedWhere();
        movedOfCutOnes();
        end("all edges of SOUND hold");
    }

    private static void eitherWayRound() {
        of("SOUND goes from one PLACE to the next one of a LEVEL in 1 beat (either way round)");
        for (int n : new int[] {4, 5, 11, 12, 23, 24}) {
            for (int x = 0; x < n; x++) {
                HungFromIce sea = sea("n" + n + ";l3,0,9;");
                for (int y = 0; y < n; y++) {
                    int apart = Math.abs(x - y);
                    due("time " + x + " " + y + " of " + n, sea.time(0, x, 0, y), Math.min(apart, n - apart));
                }
            }
        }
    }

    private static void fromLevelToLevel() {
        of("from LEVEL l to the next one below, or from that one to l, at one PLACE, in B of l beats");
        for (int b = 1; b <= 9; b++) {
            int other = 10 - b;
            HungFromIce x = sea("n24;l3,0," + b + ";l3,0," + other + ";l3,0,5;");
            for (int place : new int[] {0, 11, 23}) {
                due("down", x.time(0, place, 1, place), b);
                due("up", x.time(1, place, 0, place), b);
                due("down from 1", x.time(1, place, 2, place), other);
                due("up to 1", x.time(2, place, 1, place), other);
                due("through all", x.time(0, place, 2, place), 10);
                due("back through all", x.time(2, place, 0, place), 10);
                due("to the PLACE next to it", x.time(0, place, 1, (place + 1) % 24), b + 1);
                due("to the PLACE ahead of it", x.time(0, place, 1, (place + 23) % 24), b + 1);
            }
        }
    }

    private static void throughTheLevels() {
        of("LEVELS are not round: the ice is not next to the floor");
        HungFromIce x = sea("n4;" + "l3,0,1;".repeat(8));
        for (int l = 0; l < 8; l++) for (int k = 0; k < 8; k++) due("time", x.time(l, 3, k, 3), Math.abs(l - k));
        due("0: the same one", x.time(7, 3, 7, 3), 0);
        due("half round", x.time(0, 0, 7, 2), 9);
    }

    private static void neverIntoAMarket() {
        of("never into a MARKET nor out of one");
        HungFromIce x = sea("n6;l3,0,1;l3,0,1;m0,0;m1,5;");
        for (int y = 0; y < 6; y++) {
            due("out of one", x.time(0, 0, 0, y), NONE);
            due("out of one, down", x.time(0, 0, 1, y), NONE);
            due("into one", x.time(0, y, 0, 0), NONE);
            due("into one, up", x.time(1, y, 0, 0), NONE);
            due("into the other one", x.time(0, y, 1, 5), NONE);
        }
        due("round the first PLACE, by the next LEVEL", x.time(0, 5, 0, 1), 4);
        due("round the last PLACE", x.time(1, 4, 1, 0), 4);
        due("past one", x.time(0, 1, 1, 0), 2);
        HungFromIce y = sea("n24;l3,0,1;m0,0;");
        due("the other way round", y.time(0, 23, 0, 1), 22);
        HungFromIce z = sea("n24;l3,0,1;m0,23;");
        due("the other way round", z.time(0, 22, 0, 0), 22);
        HungFromIce w = sea("n24;l3,0,9;l3,0,9;m1,3;");
        due("a MARKET below does not shut", w.time(0, 2, 0, 4), 2);
        due("round one below", w.time(0, 3, 1, 4), 10);
    }

    private static void noWay() {
        of("none (no way, or one is a MARKET)");
        HungFromIce x = sea("n24;l3,0,1;l3,0,1;m0,23;m0,1;m1,0;");
        due("the same one, shut in", x.time(0, 0, 0, 0), 0);
        due("out", x.time(0, 0, 0, 2), NONE);
        due("in", x.time(1, 2, 0, 0), NONE);
        due("without", x.time(0, 2, 1, 2), 1);
        HungFromIce y = sea("n24;l3,0,1;l3,0,1;l3,0,1;m2,23;m2,1;m1,0;");
        due("shut in on the floor", y.time(2, 0, 0, 0), NONE);
        due("the same one", y.time(2, 0, 2, 0), 0);
        HungFromIce z = sea("n24;l3,0,1;l3,0,1;l3,0,1;m1,23;m1,1;m0,0;m2,0;");
        due("shut in on all sides", z.time(1, 0, 0, 1), NONE);
        HungFromIce w = sea("n24;l3,0,1;l3,0,1;l3,0,1;m1,23;m1,1;m0,0;");
        due("a way out below", w.time(1, 0, 0, 1), 1 + 2 + 2 + 1);
        HungFromIce v = sea("n4;l3,0,1;m0,0;m0,1;m0,2;m0,3;");
        due("all are MARKETS", v.time(0, 1, 0, 1), NONE);
        due("none that is no MARKET", v.whence(0), 0);
        due("none that is no MARKET", v.whence(1), NONE);
    }

    private static void farthest() {
        of("the fewest beats: the farthest");
        HungFromIce x = sea(SHUT);
        due("the other way round", x.time(0, 1, 7, 23), 85);
        due("and back", x.time(7, 23, 0, 1), 85);
        due("nobody in SHADOW", x.shadow(0), 0);
        HungFromIce y = sea(FARTHEST);
        for (int to = 0; to < 24; to++) {
            int round = Math.min(23 - to, to + 1);
            due("up, out, down and round to " + to, y.time(3, 3, 7, to), 27 + 4 + 63 + round);
            due("and back", y.time(7, to, 3, 3), 27 + 4 + 63 + round);
        }
        due("nobody in SHADOW", y.shadow(0), 0);
    }

    private static void hearsWithin() {
        of("HEARS: within b beats (0 to 99)");
        HungFromIce x = sea(SHUT);
        due("83", x.hears(0, 83), 0);
        due("84", x.hears(0, 84), 4);
        due("85", x.hears(0, 85), 6);
        due("99", x.hears(0, 99), 6);
        due("100", x.hears(0, 100), BAD);
        due("-1", x.hears(0, -1), BAD);
        due("0", x.hears(1, 0), 0);
        due("1", x.hears(1, 1), 4);
        due("84 from the other one", x.hears(1, 84), 4);
        due("85 from the other one", x.hears(1, 85), 5);
        HungFromIce y = sea("n24;l3,0,1;t0,0,0,0;t12,0,0,0;");
        for (int b = 0; b <= 99; b++) due("within " + b, y.hears(0, b), b < 12 ? 0 : 2);
        of("HEARS: within 99 beats, but not 100");
        HungFromIce z = sea(FARTHEST);
        due("98", z.hears(0, 98), 0);
        due("99", z.hears(0, 99), 2);
        due("100", z.hears(0, 100), BAD);
        due("99 from the one that is heard", z.hears(1, 99), 1 + 4 + 8);
        due("99 from the one that is not", z.hears(2, 99), 2 + 8);
        due("99 from the farthest", z.hears(3, 99), 2 + 4);
    }

    private static void hearsOthers() {
        of("HEARS: the other TOWNS (bits)");
        HungFromIce x = sea("n24;l3,0,1;" + SIX);
        int[] near = {2, 5, 10, 20, 40, 16};
        for (int t = 0; t < 6; t++) {
            due("hears " + t + " 0", x.hears(t, 0), 0);
            due("hears " + t + " 1", x.hears(t, 1), near[t]);
            due("hears " + t + " 99", x.hears(t, 99), 63 - (1 << t));
        }
        due("no TOWN 6", x.hears(6, 99), BAD);
        due("no TOWN -1", x.hears(-1, 99), BAD);
        x.cut(5);
        x.cut(0);
        for (int t = 1; t < 5; t++) due("CUT ones are none", x.hears(t, 99), 30 - (1 << t));
        HungFromIce y = sea("l3,0,1;t0,0,0,0;");
        due("alone", y.hears(0, 99), 0);
        HungFromIce z = sea("n24;l3,0,1;t0,0,0,0;t2,0,0,0;m0,1;m0,3;");
        due("never", z.hears(0, 99), 0);
    }

    private static void shadows() {
        of("SHADOW: how many that are no MARKETS to which it never comes");
        due("none", sea("n24;" + "l3,0,1;".repeat(8) + "t0,0,0,0;").shadow(0), 0);
        due("all but its own", sea("n24;" + "l3,0,1;".repeat(8) + "t0,0,0,0;m0,1;m0,23;m1,0;").shadow(0), 188);
        due("MARKETS are none", sea("n4;l3,0,1;t0,0,0,0;m0,1;m0,2;m0,3;").shadow(0), 0);
        due("the same MARKET again", sea("n4;l3,0,1;t0,0,0,0;m0,1;m0,1;m0,3;m0,3;").shadow(0), 1);
        HungFromIce x = sea("n24;l3,0,1;l3,0,1;t0,0,0,0;t5,1,0,0;t7,1,0,0;m1,4;m1,6;m0,5;");
        due("from without", x.shadow(0), 1);
        due("from within", x.shadow(1), 44);
        due("from beside", x.shadow(2), 1);
        x.hang(1, 8);
        due("as it hangs now", x.shadow(1), 1);
        due("no TOWN 3", x.shadow(3), BAD);
        due("no TOWN -1", x.shadow(-1), BAD);
    }

    private static void heardSix() {
        of("HEARD (6 at most): at beat t (0 to 99)");
        HungFromIce x = new HungFromIce();
        for (int beat : new int[] {-1, 100, Integer.MIN_VALUE, Integer.MAX_VALUE}) due("heard at " + beat, x.heard(0, beat), BAD);
        due("none", x.count(5), 0);
        int[] beats = {0, 99, 1, 98, 0, 99};
        for (int i = 0; i < 6; i++) due("heard", x.heard(i % 2, beats[i]), i + 1);
        due("a 7th", x.heard(0, 0), FULL);
        due("a 7th, the same again", x.heard(1, 99), FULL);
        due("HEARD", x.count(5), 6);
        due("hush of 6", x.hush(), 6);
        due("hush of none", x.hush(), 0);
        due("none", x.count(5), 0);
        for (int i = 1; i <= 6; i++) due("heard again", x.heard(0, 5), i);
        due("a 7th", x.heard(0, 5), FULL);
        due("the same six times", x.whence(0), 36);
    }

    private static void whenceAnywhere() {
        of("WHENCE: nothing HEARD");
        due("all", sea("n24;" + "l3,0,1;".repeat(8)).whence(0), 192);
        due("all but MARKETS", sea("n24;" + "l3,0,1;".repeat(8) + "m0,0;m0,0;m7,23;").whence(0), 190);
        due("the lowest that is no MARKET", sea("n4;l3,0,1;l3,0,1;m0,0;m0,1;").whence(1), 2);
        due("the lowest of the next LEVEL", sea("n4;l3,0,1;l3,0,1;m0,0;m0,1;m0,2;m0,3;").whence(1), 24);
        of("WHENCE: having been at one beat (below 0, too)");
        for (int beat : new int[] {0, 1, 50, 99}) {
            HungFromIce x = sea("n24;" + "l3,0,9;".repeat(8) + "t0,0,0,0;");
            x.heard(0, beat);
            due("from anywhere, at beat " + beat, x.whence(0), 192);
        }
        HungFromIce y = sea("n24;" + "l3,0,9;".repeat(8) + "t0,0,0,0;t1,0,0,0;m0,2;m0,23;m1,0;m1,1;");
        y.heard(0, 9);
        due("from where it comes", y.whence(0), 2);
    }

    private static void whenceTheLowest() {
        of("WHENCE: the lowest, as 24 times the LEVEL and the PLACE; none");
        HungFromIce x = sea("n24;" + "l3,0,9;".repeat(8) + "t23,7,0,0;t22,7,0,0;t0,7,0,0;t23,6,0,0;");
        x.heard(0, 0);
        due("all", x.whence(0) * 1000 + x.whence(1), 192000);
        x.heard(1, 1);
        x.heard(2, 1);
        x.heard(3, 9);
        due("how many", x.whence(0), 1);
        due("the last LEVEL and PLACE", x.whence(1), 191);
        x.heard(3, 8);
        due("none", x.whence(0), 0);
        due("none", x.whence(1), NONE);
        HungFromIce y = sea("n24;l3,0,9;l3,0,9;t0,0,0,0;t1,0,0,0;t23,0,0,0;t0,1,0,0;");
        y.heard(0, 90);
        y.heard(1, 91);
        y.heard(2, 91);
        y.heard(3, 99);
        due("how many", y.whence(0), 1);
        due("the first LEVEL and PLACE", y.whence(1), 0);
    }

    private static void whenceOneBeat() {
        of("WHENCE: it can have come to all of these at those beats, 106 beats ago as well");
        HungFromIce far = sea(FARTHEST);
        far.heard(0, 0);
        due("from anywhere", far.whence(0), 184);
        far.hush();
        far.heard(1, 0);
        far.heard(0, 99);
        // from TOWN 1 and from what lies behind it, up to TOWN 3
        due("99 later", far.whence(0) * 1000 + far.whence(1), 8172);
        far.hush();
        far.heard(3, 0);
        far.heard(0, 99);
        due("99 later than at TOWN 3: none", far.whence(0), 0);
        of("WHENCE: it can have come to all of these at those beats");
        HungFromIce x = sea("n12;l3,0,1;t0,0,0,0;t6,0,0,0;");
        x.heard(0, 50);
        x.heard(1, 56);
        due("6 later: from the first one alone", x.whence(0) * 100 + x.whence(1), 100);
        x.hush();
        x.heard(0, 50);
        x.heard(1, 57);
        due("7 later: none", x.whence(0), 0);
        x.hush();
        x.heard(0, 56);
        x.heard(1, 50);
        due("6 sooner: from the other one", x.whence(0) * 100 + x.whence(1), 106);
        x.hush();
        x.heard(0, 50);
        x.heard(1, 54);
        due("4 later: one PLACE off, either way", x.whence(0) * 100 + x.whence(1), 201);
        x.heard(0, 50);
        due("the same again", x.whence(0), 2);
        x.heard(0, 51);
        due("one TOWN at two beats", x.whence(0), 0);
        x.hush();
        x.heard(0, 0);
        x.heard(1, 99);
        due("the first beat and the last one", x.whence(0), 0);
        HungFromIce y = sea("n12;l3,0,1;t0,0,0,0;t6,0,0,0;m0,3;m0,9;");
        y.heard(0, 5);
        y.heard(1, 5);
        due("no way to both", y.whence(0), 0);
        due("no way to both", y.whence(1), NONE);
        HungFromIce z = sea("n24;l3,0,1;" + SIX);
        int[] beats = {10, 9, 8, 9, 10, 11};
        for (int t = 0; t < 5; t++) z.heard(t, beats[t]);
        due("of five", z.whence(0) * 100 + z.whence(1), 102);
        z.heard(5, 11);
        due("of six", z.whence(0) * 100 + z.whence(1), 102);
        z.hush();
        for (int t = 0; t < 5; t++) z.heard(t, beats[t]);
        z.heard(5, 12);
        due("the sixth does not agree", z.whence(0), 0);
    }

    private static void whenceAsTheyHang() {
        of("HEARD: a TOWN, as it hangs now (or hung when it was CUT)");
        HungFromIce x = sea("n12;l3,0,1;t0,0,0,0;t6,0,0,0;");
        x.heard(0, 50);
        x.heard(1, 56);
        due("from TOWN 0", x.whence(1), 0);
        x.hang(0, 3);
        due("nearer now: none", x.whence(0), 0);
        x.hang(1, 9);
        due("as far again", x.whence(0) * 100 + x.whence(1), 103);
        x.cut(0);
        x.cut(1);
        due("as they hung when CUT", x.whence(0) * 100 + x.whence(1), 103);
        x.steps(60);
        due("60 STEPS on", x.whence(0) * 100 + x.whence(1), 103);
        due("HEARD stays", x.count(5), 2);
        for (int i = 0; i < 5; i++) x.undo();
        due("as it hangs when all is UNDONE", x.whence(0) * 100 + x.whence(1), 100);
    }

    private static void movedNone() {
        of("MOVED: 0 TOWNS");
        for (int b : new int[] {0, 1, 98, 99}) {
            movedTo(sea("l3,0,1;"), b, 0, NONE, NONE);
            movedTo(sea("l3,0,1;t0,0,0,0;"), b, 0, NONE, NONE);
        }
        movedTo(sea(SHUT), 99, 0, NONE, NONE);
        movedTo(sea(SHUT), 85, 0, NONE, NONE);
        movedTo(sea("n24;l3,0,1;" + SIX), 5, 0, NONE, NONE);
        for (int b : new int[] {-1, 100, Integer.MIN_VALUE, Integer.MAX_VALUE}) {
            for (int what = 0; what < 3; what++) due("moved " + b, new HungFromIce().moved(b, what), BAD);
        }
        of("MOVED: within 0 beats none hears another one");
        movedTo(sea("l3,0,1;t0,0,0,0;t1,0,0,0;"), 0, NONE, NONE, NONE);
        movedTo(sea("l3,0,1;l3,0,1;t0,0,0,0;t0,1,0,0;"), 0, NONE, NONE, NONE);
    }

    private static void movedOne() {
        of("MOVED: one TOWN, the first of several, its first PLACE");
        movedTo(sea(SHUT), 84, 1, 2, NONE);
        movedTo(sea(FARTHEST), 99, 1, 0, NONE);
        movedTo(sea("n24;l3,0,1;t0,0,0,0;t12,0,0,0;"), 12, 0, NONE, NONE);
        movedTo(sea("n24;l3,0,1;t0,0,0,0;t12,0,0,0;"), 11, 1, 1, NONE);
        movedTo(sea("n24;l3,0,1;t2,0,0,0;t12,0,0,0;m0,11;m0,10;m0,9;m0,13;m0,14;"), 3, 1, 24 + 0, NONE);
        movedTo(sea("n24;l3,0,1;t22,0,0,0;t12,0,0,0;m0,11;m0,13;"), 1, 1, 24 + 21, NONE);
        movedTo(sea("n24;l3,0,1;t22,0,0,0;t12,0,0,0;m0,11;m0,13;m0,21;"), 1, 1, 24 + 23, NONE);
        movedTo(sea("n24;l3,0,1;t12,0,0,0;t0,0,0,0;"), 1, 1, 1, NONE);
        movedTo(sea("n24;l3,0,1;t1,0,0,0;t12,0,0,0;"), 9, 1, 3, NONE);
        movedTo(sea("n24;l3,0,1;t5,0,0,0;t23,0,0,0;"), 1, 1, 0, NONE);
        of("MOVED: one TOWN, the last one");
        movedTo(sea("n24;l3,0,1;t0,0,0,0;t1,0,0,0;t2,0,0,0;t3,0,0,0;t4,0,0,0;t12,0,0,0;"), 5, 1, 24 * 5 + 5, NONE);
        movedTo(sea("n24;l3,0,1;t0,0,0,0;t1,0,0,0;t2,0,0,0;t3,0,0,0;t4,0,0,0;t12,0,0,0;m0,5;"), 5, 1, 24 * 5 + 23, NONE);
    }

    private static void movedTwo() {
        of("MOVED: two TOWNS, the first of several");
        HungFromIce x = sea("n24;l3,0,1;t0,0,0,0;t1,0,0,0;t2,0,0,0;t12,0,0,0;t13,0,0,0;");
        movedTo(x, 12, 0, NONE, NONE);
        movedTo(x, 11, 2, 24 * 0 + 3, 24 * 1 + 4);
        movedTo(x, 10, 2, 24 * 3 + 3, 24 * 4 + 4);
        movedTo(x, 9, 2, 24 * 3 + 3, 24 * 4 + 4);
        movedTo(x, 5, 2, 24 * 3 + 3, 24 * 4 + 4);
        movedTo(x, 4, 2, 24 * 3 + 3, 24 * 4 + 4);
        movedTo(x, 3, NONE, NONE, NONE);
        HungFromIce y = sea("n24;l3,0,1;t12,0,0,0;t13,0,0,0;t22,0,0,0;t23,0,0,0;t0,0,0,0;");
        movedTo(y, 4, 2, 24 * 0 + 1, 24 * 1 + 2);
        HungFromIce z = sea("n24;l3,0,1;t12,0,0,0;t0,0,0,0;t1,0,0,0;t13,0,0,0;t2,0,0,0;m0,3;m0,4;");
        movedTo(z, 4, 2, 24 * 0 + 22, 24 * 3 + 23);
        of("MOVED: two TOWNS, the last ones, the first and the last");
        movedTo(sea("n24;l3,0,1;t0,0,0,0;t1,0,0,0;t2,0,0,0;t3,0,0,0;t12,0,0,0;t13,0,0,0;"), 5, 2, 24 * 4 + 4, 24 * 5 + 5);
        movedTo(sea("n24;l3,0,1;t12,0,0,0;t0,0,0,0;t1,0,0,0;t2,0,0,0;t3,0,0,0;t13,0,0,0;"), 5, 2, 24 * 0 + 4, 24 * 5 + 5);
    }

    private static void movedThree() {
        of("MOVED: the fewest TOWNS (0 to 2)");
        String three = "t0,0,0,0;t1,0,0,0;t2,0,0,0;";
        movedTo(sea("n24;l3,0,1;" + three + "t12,0,0,0;t13,0,0,0;t14,0,0,0;"), 5, NONE, NONE, NONE);
        movedTo(sea("n24;l3,0,1;" + three + "t12,0,0,0;t13,0,0,0;"), 5, 2, 24 * 3 + 3, 24 * 4 + 4);
        movedTo(sea("n24;l3,0,1;" + three + "t12,0,0,0;"), 5, 1, 24 * 3 + 3, NONE);
        movedTo(sea("n24;l3,0,1;" + three), 5, 0, NONE, NONE);
        movedTo(sea("n24;l3,0,1;" + SIX), 4, NONE, NONE, NONE);
        movedTo(sea("n6;l3,0,1;" + SIX), 2, NONE, NONE, NONE);
        movedTo(sea("n6;l3,0,1;" + SIX), 3, 0, NONE, NONE);
    }

    private static void movedWhere() {
        of("MOVED: HUNG elsewhere, if no TOWN and no MARKET is there");
        // 11 is as near, but a TOWN hangs there; 13 is a MARKET
        movedTo(sea("n24;l3,0,1;t2,0,0,0;t11,0,0,0;t12,0,0,0;"), 2, 1, 10, NONE);
        movedTo(sea("n24;l3,0,1;t2,0,0,0;t11,0,0,0;t12,0,0,0;m0,10;"), 2, 1, 13, NONE);
        movedTo(sea("n24;l3,0,1;t2,0,0,0;t11,0,0,0;t12,0,0,0;m0,10;m0,13;"), 2, 2, 24 * 1 + 0, 24 * 2 + 1);
        of("MOVED: at its own LEVEL");
        movedTo(sea("n24;l3,0,4;l3,0,1;t0,0,0,0;t12,1,0,0;"), 4, 1, 12, NONE);
        movedTo(sea("n24;l3,0,4;l3,0,1;t0,0,0,0;t12,1,0,0;"), 3, NONE, NONE, NONE);
        movedTo(sea("n24;l3,0,4;l3,0,1;t0,0,0,0;t12,1,0,0;m0,12;"), 4, 1, 24, NONE);
        movedTo(sea("n24;l3,0,4;l3,0,1;t0,0,0,0;t12,1,0,0;m0,12;m1,0;"), 4, 2, 1, 24 + 1);
        of("MOVED: nothing is HUNG by it");
        HungFromIce x = sea("n24;l3,0,4;l3,0,1;t0,0,0,0;t12,1,0,0;m0,12;m1,0;");
        x.moved(4, 0);
        due("PLACES", x.town(0, 1) * 100 + x.town(1, 1), 12);
        due("UNDONE", x.count(7), 0);
        due("as before", x.time(0, 0, 1, 12), 16);
    }

    private static void movedOfCutOnes() {
        of("MOVED: a CUT one is no TOWN");
        HungFromIce x = sea("n24;l3,0,1;t12,0,0,0;t1,0,0,0;t0,0,0,0;");
        movedTo(x, 2, 1, 2, NONE);
        x.cut(1);
        movedTo(x, 1, 1, 1, NONE);
        x.undo();
        x.cut(0);
        movedTo(x, 1, 0, NONE, NONE);
        HungFromIce y = sea("n24;l3,0,1;t0,0,0,0;t12,0,0,0;t13,0,0,0;t14,0,0,0;t1,0,0,0;");
        movedTo(y, 4, 2, 24 * 0 + 10, 24 * 4 + 11);
        y.cut(0);
        movedTo(y, 4, 1, 24 * 4 + 10, NONE);
        y.cut(4);
        movedTo(y, 4, 0, NONE, NONE);
        movedTo(y, 2, 0, NONE, NONE);
        movedTo(y, 1, NONE, NONE, NONE);
    }
}
