import java.lang.reflect.Constructor;
import java.lang.reflect.Field;
import java.lang.reflect.Method;
import java.lang.reflect.Modifier;

/** Each promise of the document by its number: ordinary calls, the edges that it names, wrong numbers. */
public final class PromiseTest extends Seas {
    public static void main(String[] args) {
        face();
        p1NewObject();
        p2Write();
        p3Wipe();
        p4Fault();
        p5Lay();
        p6Level();
        p7Town();
        p8Thing();
        p9Steps();
        p10LetGo();
        p11Hang();
        p12Cut();
        p13Undo();
        p14Behind();
        p15Meet();
        p16Round();
        p17Time();
        p18Hears();
        p19Shadow();
        p20Heard();
        p21Hush();
        p22Whence();
        p23Moved();
        p24Sent();
        p25Fall();
        p26Clear();
        p27Gain();
        p28Drifted();
        p29Forget();
        p30Currents();
        p31Leak();
        p32Year();
        p33Keep();
        p34Back();
        p35Count();
        end("all promises hold");
    }

    private static void face() {
        due("BAD", HungFromIce.BAD, BAD);
        due("NO", HungFromIce.NO, NO);
        due("FULL", HungFromIce.FULL, FULL);
        due("NONE", HungFromIce.NONE, NONE);
        due("final", Modifier.isFinal(HungFromIce.class.getModifiers()) ? 1 : 0, 1);
        int seen = 0;
        for (Method m : HungFromIce.class.getDeclaredMethods()) if (!Modifier.isPrivate(m.getModifiers())) seen++;
        due("methods that are seen", seen, 34);
        seen = 0;
        for (Field f : HungFromIce.class.getDeclaredFields()) if (!Modifier.isPrivate(f.getModifiers())) seen++;
        due("fields that are seen", seen, 4);
        seen = 0;
        for (Constructor<?> c : HungFromIce.class.getDeclaredConstructors()) if (!Modifier.isPrivate(c.getModifiers())) seen++;
        due("constructors that are seen", seen, 1);
    }

    private static void p1NewObject() {
        of("promise 1");
        HungFromIce x = new HungFromIce();
        int[] counts = {3, 12, 2, 1, 0, 0, 0, 0, 0, 0};
        for (int i = 0; i < counts.length; i++) due("count " + i, x.count(i), counts[i]);
        int[][] levels = {{4, 1, 2}, {2, 3, 1}, {3, 6, 1}};
        for (int l = 0; l < 3; l++) for (int i = 0; i < 3; i++) due("level " + l + " " + i, x.level(l, i), levels[l][i]);
        int[][] towns = {{1, 0, 3, 5, 0}, {2, 6, 4, 2, 0}};
        for (int t = 0; t < 2; t++) for (int i = 0; i < 5; i++) due("town " + t + " " + i, x.town(t, i), towns[t][i]);
        int[] thing = {0, 3, 5, NONE};
        for (int i = 0; i < 4; i++) due("thing 0 " + i, x.thing(0, i), thing[i]);
        due("shadow, no MARKETS", x.shadow(0), 0);
        due("whence, no MARKETS", x.whence(0), 36);
        due("wipe of the empty TEXT", x.wipe(), 0);
    }

    private static void p2Write() {
        of("promise 2");
        HungFromIce x = new HungFromIce();
        due("31", x.write(31), BAD);
        due("127", x.write(127), BAD);
        due("-1", x.write(-1), BAD);
        due("lowest", x.write(Integer.MIN_VALUE), BAD);
        due("nothing came behind", x.count(9), 0);
        due("32", x.write(32), 1);
        due("126", x.write(126), 2);
        for (int i = 3; i <= 200; i++) due("letter " + i, x.write('l'), i);
        due("letter 201", x.write('l'), FULL);
        due("BAD ahead of FULL", x.write(0), BAD);
        due("length", x.count(9), 200);
        due("the first letter stands", x.fault(), 0);
    }

    private static void p3Wipe() {
        of("promise 3");
        HungFromIce x = new HungFromIce();
        due("wipe", x.wipe(), 0);
        write(x, "n9;");
        due("wipe", x.wipe(), 3);
        due("wipe again", x.wipe(), 0);
        due("length", x.count(9), 0);
        due("writing begins anew", x.write('n'), 1);
    }

    private static void p4Fault() {
        of("promise 4");
        faultOf("", NONE);
        for (String good : new String[] {"n4;", "n24;", "n04;n12;", "l0,0,1;", "l6,9,9;", "l06,09,01;", "t0,0,0,0;", "t11,7,20,20;",
            "n24;t23,0,0,0;m7,23;g7,23,9;", "n24;n4;m0,3;", "m0,0;m0,0;", "g0,0,0;"}) faultOf(good, NONE);
        for (String bad : new String[] {"n3;", "n25;", "n;", "n9", "n", "n9,;", "n9,9;", "n009;", ";", " n9;", "N9;", "x", "l7,0,1;", "l0,0,0;",
            "l0,0,10;", "l0,10,1;", "l0,0;", "l0,0,1,1;", "l0,0,1,1,1,1;", "l0,,1;", "l,0,1;", "l0,0,1,;", "l0 ,0,1;", "l0.0,1;", "l0,0.1;", "l0;0;1;", "l0:0:1;", "l-1,0,1;", "l0,000,1;", "t12,0,0,0;",
            "t0,8,0,0;", "t0,0,21,0;", "t0,0,0,21;", "t0,0,0;", "t0,0,0,0,0;", "m8,0;", "m0,12;", "m0;", "m0,0,0;", "g8,0,0;",
            "g0,12,0;", "g0,0,10;", "g0,0;", "g0,0,0,0;", "k0;", "0n9;", "n9:"}) faultOf(bad, 0);
        faultOf("n9;x", 3);
        faultOf("n9; ", 3);
        faultOf("n9;n9", 3);
        faultOf("n4;t4,0,0,0;", 3);
        faultOf("n24;n4;t4,0,0,0;", 7);
        faultOf("n4;m0,4;", 3);
        faultOf("n4;g0,4,0;", 3);
        faultOf("l0,0,1;n9;", 7);
        faultOf("t0,0,0,0;n9;", 9);
        faultOf("m0,0;n9;", 5);
        faultOf("g0,0,0;n9;", 7);
        faultOf("l0,0,1;x;y;", 7);
        faultOf("l0,0,1;".repeat(8), NONE);
        faultOf("l0,0,1;".repeat(9), 56);
        faultOf("t0,0,0,0;".repeat(6), NONE);
        faultOf("t0,0,0,0;".repeat(7), 54);
        faultOf("m0,0;".repeat(8), NONE);
        faultOf("m0,0;".repeat(9), 40);
        faultOf("g0,0,0;".repeat(5), NONE);
        faultOf("g0,0,0;".repeat(6), 35);
        faultOf("n4;".repeat(66), NONE);
        faultOf("n4;".repeat(66) + "n4", 198);
        HungFromIce x = new HungFromIce();
        write(x, "n9;l0,0,1;");
        x.fault();
        due("the sea stays", x.count(1), 12);
    }

    private static void cannotLay(String text) {
        HungFromIce x = new HungFromIce();
        x.steps(2);
        x.heard(0, 3);
        x.drifted(0, 0, 0, 1);
        x.keep();
        write(x, text);
        due("lay of " + text, x.lay(), NO);
        due("LEVELS", x.count(0), 3);
        due("PLACES", x.count(1), 12);
        due("TOWNS", x.count(2), 2);
        due("THINGS", x.count(3), 1);
        due("STEPS", x.count(4), 2);
        due("HEARD", x.count(5), 1);
        due("DRIFTED", x.count(6), 1);
        due("UNDONE", x.count(7), 1);
        due("KEPT", x.count(8), 1);
        due("where the THING is", x.thing(0, 0) * 100 + x.thing(0, 1), 203);
        due("time as before", x.time(0, 0, 2, 7), 8);
        due("the TOWN as before", x.town(1, 1), 6);
    }

    private static void p5Lay() {
        of("promise 5");
        for (String text : new String[] {"", "n9;", "n9;t0,0,0,0;", "l0,0,1;t0,1,0,0;", "l0,0,1;m1,0;", "l0,0,1;g1,0,0;", "l0,0,1;x",
            "l0,0,1;t0,0,0,0;t0,0,1,1;", "l0,0,1;t3,0,0,0;m0,3;", "l0,0,1;m0,3;t3,0,0,0;", "l0,0,1;l0,0,1;t3,1,0,0;t2,0,0,0;t3,1,0,0;"}) cannotLay(text);
        HungFromIce x = new HungFromIce();
        x.steps(2);
        x.heard(0, 3);
        x.drifted(0, 0, 0, 1);
        x.keep();
        x.letGo(0, 3);
        String text = "n7;g1,2,3;t1,1,4,5;l0,8,2;l6,7,9;m0,3;m1,4;m0,3;t1,0,6,7;g0,3,4;";
        write(x, text);
        due("lay", x.lay(), 2);
        int[] counts = {2, 7, 2, 2, 0, 0, 0, 0, 0, text.length()};
        for (int i = 0; i < counts.length; i++) due("count " + i, x.count(i), counts[i]);
        due("the TEXT can be laid again", x.lay(), 2);
        due("undo", x.undo(), NO);
        due("back", x.back(), NO);
        due("a THING at a MARKET", x.thing(1, 1), 3);
        due("town 1", x.town(1, 0) * 100 + x.town(1, 1), 1);
        due("CUT TOWNS hang again", x.cut(0) * 10L + x.lay() * 1000L + x.town(0, 4), 2020);
        due("one at another LEVEL", sea("l0,0,1;l0,0,1;t3,1,0,0;t3,0,0,0;m1,4;").count(2), 2);
        due("no TOWNS", sea("l0,0,1;").count(2), 0);
        due("12 without n", sea("l0,0,1;").count(1), 12);
        due("the last n", sea("n5;n6;l0,0,1;").count(1), 6);
        HungFromIce again = sea("n5;l0,0,1;");
        for (int i = 0; i < 3; i++) {
            write(again, "l0,0,1;");
            due("12 without n, whatever was laid", again.lay() * 100L + again.count(1), 112);
            write(again, "n5;l0,0,1;");
            due("5 with n5", again.lay() * 100L + again.count(1), 105);
            due("5 with n5 again", again.lay() * 100L + again.count(1), 105);
        }
        due("a THING where a TOWN is is not CAUGHT", sea("l3,0,1;t3,0,0,0;g0,3,0;").thing(0, 3), NONE);
    }

    private static void p6Level() {
        of("promise 6");
        HungFromIce x = sea("l0,9,9;l6,0,1;");
        due("level 0 0", x.level(0, 0), 0);
        due("level 0 1", x.level(0, 1), 9);
        due("level 0 2", x.level(0, 2), 9);
        due("level 1 0", x.level(1, 0), 6);
        due("level 1 1", x.level(1, 1), 0);
        due("level 1 2", x.level(1, 2), 1);
        due("level 2 0", x.level(2, 0), BAD);
        due("level -1 0", x.level(-1, 0), BAD);
        due("level 0 3", x.level(0, 3), BAD);
        due("level 0 -1", x.level(0, -1), BAD);
    }

    private static void p7Town() {
        of("promise 7");
        HungFromIce x = sea("l3,0,1;l3,0,1;t1,0,0,20;t11,1,20,0;");
        int[][] want = {{0, 1, 0, 20, 0}, {1, 11, 20, 0, 0}};
        for (int t = 0; t < 2; t++) for (int i = 0; i < 5; i++) due("town " + t + " " + i, x.town(t, i), want[t][i]);
        x.hang(1, 4);
        x.cut(1);
        int[] cut = {1, 4, 20, 0, 1};
        for (int i = 0; i < 5; i++) due("CUT: town 1 " + i, x.town(1, i), cut[i]);
        due("town 0 4", x.town(0, 4), 0);
        x.steps(3);
        due("where it was", x.town(1, 1), 4);
        for (int[] bad : new int[][] {{2, 0}, {-1, 0}, {0, 5}, {0, -1}}) due("town", x.town(bad[0], bad[1]), BAD);
    }

    private static void p8Thing() {
        of("promise 8");
        HungFromIce x = sea("n5;l4,5,1;l3,5,1;t2,0,0,0;g0,0,5;g1,4,7;");
        int[][] want = {{0, 0, 5, NONE}, {1, 4, 7, NONE}};
        for (int g = 0; g < 2; g++) for (int i = 0; i < 4; i++) due("thing " + g + " " + i, x.thing(g, i), want[g][i]);
        x.steps(4);
        due("CAUGHT by", x.thing(0, 3), 0);
        due("CAUGHT at", x.thing(0, 1), 2);
        x.hang(0, 3);
        due("goes along", x.thing(0, 1), 3);
        due("the other one does not", x.thing(1, 1), 4);
        for (int[] bad : new int[][] {{2, 0}, {-1, 0}, {0, 4}, {0, -1}}) due("thing", x.thing(bad[0], bad[1]), BAD);
    }

    private static void p9Steps() {
        of("promise 9");
        HungFromIce x = sea("n5;l1,5,1;l6,5,1;l3,9,1;g0,0,6;g1,3,4;g0,1,5;g2,0,9;g0,4,0;");
        for (int bad : new int[] {0, -1, 61, Integer.MAX_VALUE, Integer.MIN_VALUE}) due("steps " + bad, x.steps(bad), BAD);
        due("steps 1", x.steps(1), 1);
        // sinks behind the current of the LEVEL it leaves; rises; stays; stays at the floor; stays under the ice
        int[][] want = {{1, 3}, {0, 1}, {0, 4}, {2, 0}, {0, 2}};
        for (int g = 0; g < 5; g++) due("thing " + g, x.thing(g, 0) * 100 + x.thing(g, 1), want[g][0] * 100 + want[g][1]);
        due("steps 1", x.steps(1), 2);
        due("sinks to the floor", x.thing(0, 0) * 100 + x.thing(0, 1), 201);
        due("steps 60", x.steps(60), 62);
        for (int i = 0; i < 165; i++) x.steps(60);
        due("STEPS", x.count(4), 9962);
        due("above 9999", x.steps(38), NO);
        due("BAD ahead of NO", x.steps(61), BAD);
        due("nothing gone by", x.count(4), 9962);
        due("9999", x.steps(37), 9999);
        due("10000", x.steps(1), NO);
        due("the last 8 and no NO", x.count(7), 8);
        due("one back", x.undo(), 7);
        due("again", x.steps(37), 9999);
        HungFromIce y = sea("n4;l3,3,1;l3,6,1;t1,1,0,0;t1,0,0,0;g0,1,5;g0,1,3;g1,1,6;g1,2,9;");
        y.steps(1);
        due("CAUGHT by the TOWN that it sinks to", y.thing(0, 3), 0);
        due("CAUGHT by the TOWN where it stays", y.thing(1, 3), 1);
        due("CAUGHT where it stays at the floor", y.thing(2, 3), 0);
        due("not CAUGHT", y.thing(3, 3), NONE);
        y.steps(9);
        due("CAUGHT it stays", y.thing(0, 0) * 100 + y.thing(0, 1), 101);
    }

    private static void p10LetGo() {
        of("promise 10");
        HungFromIce x = sea("n6;l4,5,1;l3,5,1;t2,0,0,0;t4,1,0,0;g0,0,0;g0,0,1;g0,0,2;");
        for (int[] bad : new int[][] {{2, 0}, {-1, 0}, {0, 10}, {0, -1}}) due("letGo", x.letGo(bad[0], bad[1]), BAD);
        due("letGo", x.letGo(1, 0), 3);
        int[] want = {1, 4, 0, NONE};
        for (int i = 0; i < 4; i++) due("thing 3 " + i, x.thing(3, i), want[i]);
        due("letGo", x.letGo(0, 9), 4);
        due("WEIGHT", x.thing(4, 2), 9);
        due("by nobody as yet", x.thing(4, 3), NONE);
        due("cut", x.cut(0), 5);
        due("CUT", x.letGo(0, 3), NO);
        due("BAD ahead of NO", x.letGo(0, 10), BAD);
        due("the 7th", x.letGo(1, 5), 6);
        due("the 8th", x.letGo(1, 5), FULL);
        due("NO ahead of FULL", x.letGo(0, 5), NO);
        due("BAD ahead of FULL", x.letGo(2, 5), BAD);
        due("THINGS", x.count(3), 7);
        due("can be UNDONE", x.count(7), 4);
        x.steps(1);
        due("CAUGHT by where it was LET GO", x.thing(6, 3), 1);
    }

    private static void p11Hang() {
        of("promise 11");
        HungFromIce x = sea("n6;l3,5,1;l3,5,1;t2,0,0,0;t4,0,0,0;t5,1,0,0;m0,3;m1,1;g0,1,5;g0,2,5;");
        for (int[] bad : new int[][] {{3, 0}, {-1, 0}, {0, 6}, {0, -1}}) due("hang", x.hang(bad[0], bad[1]), BAD);
        due("the same PLACE", x.hang(0, 2), NO);
        due("a TOWN", x.hang(0, 4), NO);
        due("a MARKET", x.hang(0, 3), NO);
        due("nothing to be UNDONE", x.count(7), 0);
        due("a MARKET at another LEVEL", x.hang(0, 1), 2);
        due("a THING there is not CAUGHT", x.thing(0, 3), NONE);
        x.steps(1);
        due("but when it stays", x.thing(0, 3), 0);
        due("a TOWN at another LEVEL", x.hang(0, 5), 1);
        due("goes with it", x.thing(0, 1), 5);
        due("does not", x.thing(1, 1), 2);
        due("PLACE", x.town(0, 1), 5);
        due("where it had been", x.hang(1, 2), 4);
        x.cut(1);
        due("CUT", x.hang(1, 0), NO);
        due("BAD ahead of NO", x.hang(1, 6), BAD);
        due("where a CUT one was", x.hang(0, 2), 5);
        due("goes along again", x.thing(0, 1), 2);
        for (int i = 0; i < 7; i++) x.letGo(0, 5);
        x.steps(1);
        due("with all THINGS there can be", x.hang(0, 1), 2);
        due("the last one, too", x.thing(6, 1), 1);
    }

    private static void p12Cut() {
        of("promise 12");
        HungFromIce x = sea("n6;l3,5,1;l3,9,1;t2,0,0,0;t4,0,0,0;t2,1,0,0;g0,2,5;g0,4,5;g0,2,5;");
        x.steps(1);
        due("cut -1", x.cut(-1), BAD);
        due("cut 3", x.cut(3), BAD);
        due("cut 0", x.cut(0), 3);
        int[] want = {0, 2, 9, NONE};
        for (int i = 0; i < 4; i++) due("thing 3 " + i, x.thing(3, i), want[i]);
        due("no more CAUGHT", x.thing(0, 3), NONE);
        due("no more CAUGHT", x.thing(2, 3), NONE);
        due("is there", x.thing(0, 1), 2);
        due("still CAUGHT", x.thing(1, 3), 1);
        due("again", x.cut(0), NO);
        x.steps(1);
        due("catches no more", x.thing(0, 3), NONE);
        due("is CAUGHT", x.thing(3, 3), 2);
        x.letGo(1, 1);
        x.letGo(1, 1);
        due("THINGS", x.letGo(1, 1), 6);
        due("cut 1", x.cut(1), FULL);
        due("NO ahead of FULL", x.cut(0), NO);
        due("BAD ahead of FULL", x.cut(3), BAD);
        due("hangs", x.town(1, 4), 0);
        x.undo();
        due("the 7th", x.cut(1), 6);
    }

    private static void p13Undo() {
        of("promise 13");
        HungFromIce x = sea("n6;l4,5,1;l3,5,1;t2,0,0,0;t4,0,0,0;g0,0,5;");
        due("nothing", x.undo(), NO);
        x.steps(2);
        due("CAUGHT", x.thing(0, 3), 0);
        x.hang(0, 3);
        x.cut(0);
        x.letGo(1, 3);
        due("of letGo", x.undo(), 3);
        due("THINGS", x.count(3), 2);
        due("of cut", x.undo(), 2);
        due("THINGS", x.count(3), 1);
        due("hangs", x.town(0, 4), 0);
        due("CAUGHT again", x.thing(0, 3), 0);
        due("at", x.thing(0, 1), 3);
        due("of hang", x.undo(), 1);
        due("TOWN at", x.town(0, 1), 2);
        due("THING at", x.thing(0, 1), 2);
        due("of steps", x.undo(), 0);
        due("STEPS", x.count(4), 0);
        due("THING at", x.thing(0, 1), 0);
        due("not CAUGHT", x.thing(0, 3), NONE);
        due("nothing", x.undo(), NO);
        for (int i = 0; i < 11; i++) x.steps(i + 1);
        x.steps(0);
        x.hang(0, 4);
        due("STEPS", x.count(4), 66);
        int gone = 66;
        for (int i = 10; i > 2; i--) {
            due("the last 8", x.undo(), i - 3);
            gone -= i + 1;
            due("STEPS", x.count(4), gone);
        }
        due("no more", x.undo(), NO);
        due("the first three stay", x.count(4), 6);
        HungFromIce y = sea("n6;l4,5,1;l3,5,1;t2,0,0,0;g0,0,7;");
        y.steps(1);
        due("sunk", y.thing(0, 0), 1);
        y.undo();
        due("LEVEL", y.thing(0, 0), 0);
        y.letGo(0, 6);
        y.steps(1);
        y.undo();
        due("WEIGHT", y.thing(1, 2), 6);
        due("THINGS as they were", y.thing(0, 0) * 100 + y.thing(0, 1), 0);
        x.heard(0, 1);
        x.drifted(0, 0, 0, 1);
        x.steps(1);
        x.undo();
        due("HEARD stays", x.count(5), 1);
        due("DRIFTED stays", x.count(6), 1);
    }

    private static void p14Behind() {
        of("promise 14");
        HungFromIce x = sea("n6;l4,5,1;l2,7,1;l3,9,1;t2,1,0,0;g0,0,7;g1,2,9;");
        for (int[] bad : new int[][] {{-1, 0, 0}, {61, 0, 0}, {0, 2, 0}, {0, -1, 0}, {0, 0, 3}, {0, 0, -1}}) due("behind", x.behind(bad[0], bad[1], bad[2]), BAD);
        int[][] way = {{0, 0, NONE}, {1, 1, NONE}, {1, 0, NONE}, {1, 5, NONE}, {1, 4, NONE}, {1, 3, NONE}, {1, 2, 0}, {1, 2, 0}};
        for (int n = 0; n < way.length; n++) for (int i = 0; i < 3; i++) due("behind " + n + " 0 " + i, x.behind(n, 0, i), way[n][i]);
        due("not CAUGHT now", x.behind(0, 1, 2), NONE);
        due("sinks", x.behind(1, 1, 0), 2);
        due("60", x.behind(60, 0, 1), 2);
        due("60", x.behind(60, 1, 0), 2);
        due("nothing has gone by", x.count(4), 0);
        due("all is where it was", x.thing(0, 0), 0);
        due("nothing to be UNDONE", x.count(7), 0);
        x.steps(6);
        due("of one that is CAUGHT", x.behind(3, 0, 2), 0);
        for (int i = 0; i < 166; i++) x.steps(60);
        x.steps(33);
        due("beyond 9999, too", x.count(4) * 100L + x.behind(60, 0, 1), 999902);
    }

    private static void p15Meet() {
        of("promise 15");
        HungFromIce x = sea("n8;l4,5,1;l3,7,1;t6,0,0,0;g0,0,5;g0,3,5;g1,5,7;g0,4,6;g1,2,7;");
        for (int[] bad : new int[][] {{0, 0}, {5, 0}, {0, 5}, {-1, 0}, {0, -1}}) due("meet", x.meet(bad[0], bad[1]), BAD);
        due("never", x.meet(0, 1), NONE);
        due("one sinks to the other", x.meet(2, 3), 1);
        due("as well", x.meet(3, 2), 1);
        due("never at one LEVEL", x.meet(0, 2), NONE);
        HungFromIce y = sea("n8;l4,5,1;t6,0,0,0;g0,0,5;g0,0,5;g0,2,5;g0,6,5;");
        due("now", y.meet(0, 1), 0);
        due("CAUGHT together only", y.meet(0, 2), NONE);
        y.steps(6);
        due("CAUGHT at one PLACE", y.meet(0, 1), NONE);
        due("one CAUGHT", y.meet(0, 3), NONE);
        due("LET GO where one is CAUGHT", y.meet(0, y.letGo(0, 5)), NONE);
        due("as well", y.meet(4, 0), NONE);
        HungFromIce z = sea("n24;l4,5,1;l3,6,1;g0,1,5;g1,0,6;g0,2,0;");
        due("not in 60", z.meet(0, 1), NONE);
        due("same way", z.meet(0, 2), NONE);
        HungFromIce w = sea("n24;l4,5,1;l3,4,1;l3,9,1;t23,0,0,0;g0,0,5;g0,0,6;");
        due("now, though they part", w.meet(0, 1), 0);
        w.steps(1);
        due("parted", w.meet(0, 1), NONE);
        HungFromIce v = sea("n23;l2,5,1;l3,9,1;g0,21,5;g0,1,9;g1,3,8;");
        due("one that lies still, one that bobs", v.meet(1, 2), 6);
        // a THING that bobs between two LEVELS gains a PLACE on one that stays in 2 STEPS
        HungFromIce u = sea("n24;l4,5,1;l3,7,1;g0,0,6;g0,1,7;g1,10,7;");
        due("bobs over it", u.meet(0, 2), 19);
        HungFromIce s = sea("n24;l4,5,1;l3,8,1;g1,1,8;g0,1,6;");
        due("round: behind 47", s.meet(0, 1), 47);
    }

    private static void p16Round() {
        of("promise 16");
        HungFromIce x = sea("n24;l4,5,1;l3,7,1;l5,9,1;t3,0,0,0;g0,2,5;g0,0,6;g1,4,7;g2,0,9;");
        due("-1", x.round(-1), BAD);
        due("4", x.round(4), BAD);
        due("round and round", x.round(0), 24);
        due("bobs", x.round(1), 48);
        due("stays", x.round(2), 1);
        due("by 2 in 24", x.round(3), 12);
        x.steps(1);
        due("CAUGHT", x.thing(0, 3), 0);
        due("as if it were not", x.round(0), 24);
        due("still CAUGHT", x.thing(0, 3), 0);
        due("bobs, 1 on and 1 back", sea("n9;l4,5,1;l2,7,1;g0,2,6;").round(0), 2);
        due("sinks long before it goes round", sea("n7;l3,0,1;l3,1,1;l3,2,1;l4,3,1;g0,0,3;").round(0), 7);
        due("no TOWNS need be", sea("n5;l0,5,1;g0,2,5;").round(0), 5);
    }

    private static void p17Time() {
        of("promise 17");
        HungFromIce x = sea("n8;l3,0,2;l3,0,9;l3,0,5;m0,2;m1,2;m1,3;m2,6;");
        int[][] bad = {{3, 0, 0, 0}, {-1, 0, 0, 0}, {0, 8, 0, 0}, {0, -1, 0, 0}, {0, 0, 3, 0}, {0, 0, -1, 0}, {0, 0, 0, 8}, {0, 0, 0, -1}};
        for (int[] b : bad) due("time", x.time(b[0], b[1], b[2], b[3]), BAD);
        int[][] good = {{0, 0, 0, 0, 0}, {0, 0, 0, 1, 1}, {0, 0, 0, 7, 1}, {0, 0, 0, 4, 4}, {0, 1, 0, 3, 6}, {0, 0, 1, 0, 2}, {1, 0, 0, 0, 2},
            {0, 3, 1, 4, 3}, {0, 1, 1, 1, 2}, {0, 4, 2, 4, 11}, {2, 4, 0, 4, 11}, {2, 5, 2, 7, 6}, {1, 1, 1, 4, 5}, {0, 1, 2, 3, 13}};
        for (int[] t : good) {
            due("time " + t[0] + " " + t[1] + " " + t[2] + " " + t[3], x.time(t[0], t[1], t[2], t[3]), t[4]);
            due("and back", x.time(t[2], t[3], t[0], t[1]), t[4]);
        }
        due("from a MARKET", x.time(0, 2, 0, 1), NONE);
        due("into a MARKET", x.time(0, 1, 0, 2), NONE);
        due("a MARKET alone", x.time(0, 2, 0, 2), NONE);
        HungFromIce y = sea("n4;l3,0,1;l3,0,1;m0,0;m0,2;m1,1;m1,3;");
        due("shut in", y.time(0, 1, 1, 0), NONE);
        due("the same one", y.time(0, 1, 0, 1), 0);
        due("sooner by the next LEVEL", sea("n24;l3,0,1;l3,0,1;m0,1;m0,23;").time(0, 0, 0, 2), 4);
        // ways that wind: up and down through gaps
        HungFromIce z = sea("n6;l3,0,1;l3,0,1;l3,0,1;l3,0,1;m0,0;m1,0;m2,0;m3,0;m1,2;m2,2;m1,4;m2,4;");
        due("winds", z.time(1, 1, 1, 3), 4);
        due("winds on", z.time(2, 1, 1, 5), 7);
        HungFromIce w = sea("n24;" + "l3,0,9;".repeat(8));
        due("far", w.time(0, 0, 7, 12), 75);
        due("far", w.time(7, 23, 0, 0), 64);
        write(w, "n24;" + "l3,0,8;".repeat(8) + "m0,1;m1,0;");
        w.lay();
        due("another sea", w.time(0, 0, 7, 12), 68);
        due("another sea", w.time(7, 23, 0, 0), 57);
        due("a MARKET there", w.time(0, 0, 1, 0), NONE);
        due("round it", w.time(0, 0, 0, 2), 18 + 4);
        write(w, "l3,0,1;");
        w.lay();
        due("no MARKET any more", w.time(0, 0, 0, 2), 2);
        write(w, "l3,0,1;m0,0;");
        w.lay();
        due("another MARKET", w.time(0, 0, 0, 2), NONE);
        due("the other way round", w.time(0, 11, 0, 2), 9);
    }

    private static void p18Hears() {
        of("promise 18");
        HungFromIce x = sea("n8;l3,0,2;l3,0,3;l3,0,1;t0,0,0,0;t3,0,0,0;t0,1,0,0;t0,2,0,0;t5,2,0,0;m2,4;m2,6;m1,5;");
        for (int[] bad : new int[][] {{5, 0}, {-1, 0}, {0, 100}, {0, -1}}) due("hears", x.hears(bad[0], bad[1]), BAD);
        int[][] want = {{0, 0}, {1, 0}, {2, 4}, {3, 6}, {4, 6}, {5, 14}, {99, 14}};
        for (int[] w : want) due("hears 0 " + w[0], x.hears(0, w[0]), w[1]);
        due("one shut in hears none", x.hears(4, 99), 0);
        due("the first one, too", x.hears(2, 99), 11);
        x.cut(2);
        due("no TOWN any more", x.hears(0, 99), 10);
        due("CUT", x.hears(2, 99), NO);
        due("BAD ahead of NO", x.hears(2, 100), BAD);
        x.hang(1, 1);
        due("as it hangs now", x.hears(0, 1), 2);
    }

    private static void p19Shadow() {
        of("promise 19");
        HungFromIce x = sea("n8;l3,0,1;l3,0,1;m1,4;m1,6;m0,5;m0,0;m0,0;t5,1,0,0;t1,0,0,0;t2,0,0,0;");
        due("-1", x.shadow(-1), BAD);
        due("3", x.shadow(3), BAD);
        due("from the one shut in", x.shadow(0), 11);
        due("from without", x.shadow(1), 1);
        x.cut(1);
        due("CUT", x.shadow(1), NO);
        due("none", new HungFromIce().shadow(1), 0);
        x.hang(0, 0);
        due("hung elsewhere", x.shadow(0), 1);
    }

    private static void p20Heard() {
        of("promise 20");
        HungFromIce x = new HungFromIce();
        for (int[] bad : new int[][] {{2, 0}, {-1, 0}, {0, 100}, {0, -1}}) due("heard", x.heard(bad[0], bad[1]), BAD);
        due("heard", x.heard(0, 0), 1);
        due("heard", x.heard(0, 0), 2);
        due("heard", x.heard(1, 99), 3);
        x.cut(0);
        due("CUT", x.heard(0, 5), NO);
        due("BAD ahead of NO", x.heard(0, 100), BAD);
        for (int i = 4; i <= 6; i++) due("heard", x.heard(1, 9), i);
        due("the 7th", x.heard(1, 9), FULL);
        due("NO ahead of FULL", x.heard(0, 9), NO);
        due("BAD ahead of FULL", x.heard(2, 9), BAD);
        due("HEARD", x.count(5), 6);
        due("not UNDONE", x.undo(), 0);
        due("HEARD stays", x.count(5), 6);
    }

    private static void p21Hush() {
        of("promise 21");
        HungFromIce x = new HungFromIce();
        due("nothing", x.hush(), 0);
        x.heard(0, 1);
        x.heard(1, 90);
        due("two", x.hush(), 2);
        due("nothing any more", x.hush(), 0);
        due("from anywhere", x.whence(0), 36);
        due("anew", x.heard(0, 1), 1);
    }

    private static void p22Whence() {
        of("promise 22");
        HungFromIce x = sea("n8;l3,0,2;l3,0,1;t0,0,0,0;t4,0,0,0;t2,1,0,0;m0,6;");
        due("-1", x.whence(-1), BAD);
        due("2", x.whence(2), BAD);
        due("nothing HEARD", x.whence(0), 15);
        due("the lowest", x.whence(1), 0);
        x.heard(0, 0);
        due("below 0, too", x.whence(0), 15);
        x.heard(1, 0);
        // as far from either: 0,2 and 1,2; 1,6 (the MARKET is 0,6)
        due("as soon", x.whence(0), 3);
        due("the lowest", x.whence(1), 2);
        x.heard(2, 0);
        // 0,2 is 2 beats from each, 1,6 is 4
        due("three", x.whence(0) * 100 + x.whence(1), 202);
        x.hush();
        x.heard(0, 10);
        x.heard(1, 14);
        // 0,0, 0,7 and 1,0: from these the way to TOWN 1 is 4 longer
        due("along the way", x.whence(0), 3);
        due("the lowest", x.whence(1), 0);
        x.heard(0, 11);
        due("at two beats", x.whence(0), 0);
        due("none", x.whence(1), NONE);
        x.hush();
        x.heard(0, 5);
        x.heard(1, 5);
        x.hang(1, 1);
        due("as it hangs now", x.whence(0), 0);
        x.hang(1, 2);
        due("as it hangs now", x.whence(1), 1);
        x.cut(1);
        x.steps(5);
        due("as it hung when CUT", x.whence(1), 1);
        x.undo();
        x.undo();
        x.undo();
        x.undo();
        due("UNDONE", x.whence(1), 2);
        HungFromIce y = sea("n4;l3,0,1;t0,0,0,0;m0,1;m0,3;");
        due("no MARKETS", y.whence(0), 2);
        y.heard(0, 50);
        due("only whence it comes", y.whence(0), 1);
        due("the TOWN's own", y.whence(1), 0);
    }

    private static void p23Moved() {
        of("promise 23");
        HungFromIce x = sea("n12;l3,0,1;t0,0,0,0;t2,0,0,0;t6,0,0,0;");
        for (int[] bad : new int[][] {{100, 0}, {-1, 0}, {5, 3}, {5, -1}}) due("moved", x.moved(bad[0], bad[1]), BAD);
        movedTo(x, 6, 0, NONE, NONE);
        movedTo(x, 99, 0, NONE, NONE);
        // TOWN 0 to 3: 1 from TOWN 1, 3 from TOWN 2; TOWN 0 cannot go where TOWN 2 is
        movedTo(x, 4, 1, 3, NONE);
        movedTo(x, 3, 1, 24 * 2 + 1, NONE);
        movedTo(x, 2, 1, 24 * 2 + 1, NONE);
        movedTo(x, 1, NONE, NONE, NONE);
        due("nothing is hung elsewhere", x.town(0, 1) * 10000 + x.town(1, 1) * 100 + x.town(2, 1), 206);
        due("nothing to be UNDONE", x.count(7), 0);
        HungFromIce y = sea("n12;l3,0,1;l3,0,9;l3,0,1;t0,0,0,0;t4,0,0,0;t8,0,0,0;");
        movedTo(y, 4, 0, NONE, NONE);
        movedTo(y, 3, 2, 24 * 0 + 1, 24 * 2 + 2);
        movedTo(y, 2, 2, 24 * 0 + 2, 24 * 2 + 3);
        HungFromIce z = sea("n4;l3,0,1;l3,0,1;t0,0,0,0;t1,0,0,0;t2,1,0,0;m0,3;m1,3;m1,0;m1,1;");
        movedTo(z, 3, 0, NONE, NONE);
        movedTo(z, 2, 1, 24 * 0 + 2, NONE);
        HungFromIce w = sea("n4;l3,0,9;l3,0,1;t0,0,0,0;t2,0,0,0;t3,1,0,0;m0,1;m1,0;m1,1;m1,2;");
        movedTo(w, 9, NONE, NONE, NONE);
        // of LEVELS apart: both must go to where B is small
        HungFromIce p = sea("n24;" + "l3,0,1;".repeat(2) + "t12,0,0,0;t14,0,0,0;t16,0,0,0;t1,0,0,0;t23,1,0,0;t23,0,0,0;m1,22;m1,0;");
        // TOWN 4 is 12 from TOWN 0
        movedTo(p, 12, 0, NONE, NONE);
        movedTo(p, 10, 2, 24 * 0 + 0, 24 * 1 + 2);
        movedTo(p, 1, NONE, NONE, NONE);
        movedTo(sea("n24;l3,0,9;l3,0,1;t12,0,0,0;t1,1,0,0;"), 1, NONE, NONE, NONE);
        HungFromIce o = sea("n24;l3,0,1;t1,0,0,0;t12,0,0,0;");
        movedTo(o, 1, 1, 24 * 0 + 11, NONE);
        HungFromIce n = sea("n24;l3,0,1;t23,0,0,0;t12,0,0,0;m0,22;");
        movedTo(n, 1, 1, 24 * 0 + 11, NONE);
        HungFromIce k = sea("n24;l3,0,1;t23,0,0,0;t22,0,0,0;t12,0,0,0;t1,0,0,0;");
        movedTo(k, 3, 1, 24 * 2 + 0, NONE);
        HungFromIce j = sea("n24;l3,0,1;t23,0,0,0;t22,0,0,0;t12,0,0,0;t14,0,0,0;");
        movedTo(j, 3, 2, 24 * 0 + 11, 24 * 1 + 13);
        HungFromIce i = sea("n24;l3,0,1;t12,0,0,0;t13,0,0,0;t14,0,0,0;t2,0,0,0;t1,0,0,0;");
        movedTo(i, 4, 2, 24 * 3 + 10, 24 * 4 + 11);
        // TOWN 0 is hung anew as it was before TOWN 1 is
        HungFromIce h = sea("n24;l3,0,1;t5,0,0,0;t13,0,0,0;t20,0,0,0;t6,0,0,0;");
        movedTo(h, 3, 2, 24 * 1 + 3, 24 * 2 + 4);
        HungFromIce v = sea("n6;l3,0,2;l3,0,1;t0,0,0,0;t3,1,0,0;");
        movedTo(v, 5, 0, NONE, NONE);
        movedTo(v, 2, 1, 3, NONE);
        movedTo(v, 1, NONE, NONE, NONE);
        HungFromIce u = sea("n6;l3,0,2;l3,0,1;t0,0,0,0;t3,1,0,0;m0,3;m1,0;");
        movedTo(u, 2, 2, 24 * 0 + 1, 24 * 1 + 1);
        movedTo(u, 3, 1, 2, NONE);
        u.cut(1);
        movedTo(u, 0, 0, NONE, NONE);
        HungFromIce s = sea("n6;l3,0,2;l3,0,1;");
        movedTo(s, 0, 0, NONE, NONE);
        HungFromIce r = sea("n12;l3,0,1;t0,0,0,0;t6,0,0,0;t1,0,0,0;t2,0,0,0;");
        r.cut(1);
        movedTo(r, 2, 0, NONE, NONE);
        HungFromIce q = sea("n4;l3,0,3;l3,0,1;t1,0,0,0;t3,0,0,0;t1,1,0,0;m0,0;m1,0;m1,3;");
        movedTo(q, 4, 1, 24 * 1 + 2, NONE);
    }

    private static void p24Sent() {
        of("promise 24");
        HungFromIce x = sea("n8;l4,4,1;l3,6,1;l4,8,1;t0,0,0,0;t3,0,0,0;t1,1,0,0;t5,2,0,0;");
        for (int[] bad : new int[][] {{0, 0, 0}, {4, 0, 0}, {0, 4, 0}, {-1, 0, 0}, {0, -1, 0}, {0, 1, 2}, {0, 1, -1}}) due("sent", x.sent(bad[0], bad[1], bad[2]), BAD);
        due("the lowest of 0 to 4", x.sent(0, 1, 0), 0);
        due("in", x.sent(0, 1, 1), 3);
        due("sinks", x.sent(0, 2, 0), 5);
        due("in", x.sent(0, 2, 1), 1);
        due("others catch", x.sent(0, 3, 0), NONE);
        due("others catch", x.sent(0, 3, 1), NONE);
        due("only what is fewest", x.sent(1, 0, 0), 0);
        due("in", x.sent(1, 0, 1), 5);
        due("others catch what rises", x.sent(3, 1, 0) * 100 + x.sent(3, 1, 1), NONE * 101);
        x.cut(2);
        // 7 gets there, too, behind 10 STEPS; 8 and 9 behind 6
        due("none catches any more", x.sent(0, 3, 0), 8);
        due("in", x.sent(0, 3, 1), 6);
        due("CUT", x.sent(2, 0, 0), NO);
        due("CUT", x.sent(0, 2, 0), NO);
        due("BAD ahead of NO", x.sent(2, 2, 0), BAD);
        due("BAD ahead of NO", x.sent(2, 0, 2), BAD);
        due("nothing was LET GO", x.count(3), 1);
        HungFromIce y = sea("n24;l3,4,1;l4,6,1;t0,0,0,0;t0,1,0,0;t5,1,0,0;");
        due("a TOWN catches none of its own", y.sent(1, 2, 0) * 100 + y.sent(1, 2, 1), 605);
        due("nor when it comes round", y.sent(2, 1, 0) * 100 + y.sent(2, 1, 1), 619);
        // 5 rises from LEVEL 1 and comes back: 1 PLACE in 2 STEPS
        HungFromIce z = sea("n24;l3,4,1;l4,6,1;t0,0,0,0;t6,0,0,0;");
        due("bobs there", z.sent(0, 1, 0) * 100 + z.sent(0, 1, 1), 512);
        HungFromIce w = sea("n24;l3,4,1;l4,6,1;t0,1,0,0;t0,0,0,0;");
        due("others of the same PLACE", w.sent(1, 0, 0) * 100 + w.sent(1, 0, 1), 501);
        HungFromIce v = sea("n24;l3,4,1;l4,9,1;l3,9,1;t0,1,0,0;t23,1,0,0;t0,0,0,0;t23,0,0,0;");
        due("behind 46", v.sent(2, 3, 0) * 100 + v.sent(2, 3, 1), NONE * 101);
        due("behind 23", v.sent(0, 1, 0) * 100 + v.sent(0, 1, 1), 923);
    }

    private static void p25Fall() {
        of("promise 25");
        HungFromIce x = sea("n8;l4,4,1;l3,6,1;l5,9,1;t0,0,0,0;t1,1,0,0;t4,2,0,0;t1,2,0,0;t3,0,0,0;");
        for (int[] bad : new int[][] {{5, 0}, {-1, 0}, {0, 2}, {0, -1}}) due("fall", x.fall(bad[0], bad[1]), BAD);
        int[][] want = {{1, 1}, {3, 1}, {NONE, NONE}, {NONE, NONE}, {2, 2}};
        for (int t = 0; t < 5; t++) for (int i = 0; i < 2; i++) due("fall " + t + " " + i, x.fall(t, i), want[t][i]);
        due("nothing is CUT", x.town(0, 4) * 100 + x.count(3), 0);
        for (int i = 0; i < 7; i++) x.letGo(0, 1);
        due("though there is no room for a THING", x.fall(0, 0), 1);
        x.undo();
        x.cut(0);
        due("CUT", x.fall(0, 0), NO);
        due("BAD ahead of NO", x.fall(0, 2), BAD);
        x.undo();
        x.undo();
        x.cut(1);
        due("CUT ones do not catch", x.fall(0, 0) * 100 + x.fall(0, 1), 302);
        HungFromIce y = sea("n24;l4,9,1;t0,0,0,0;t23,0,0,0;");
        due("round", y.fall(0, 0) * 100 + y.fall(0, 1), 123);
        due("on", y.fall(1, 0) * 100 + y.fall(1, 1), 1);
        // 9 sinks from LEVEL to LEVEL, 1 PLACE on each
        HungFromIce z = sea("n24;l4,0,1;l4,0,1;l4,0,1;l4,0,1;l4,0,1;l4,0,1;l4,0,1;l4,0,1;t0,0,0,0;t6,7,0,0;");
        due("at the floor it goes on round", z.fall(0, 0) * 100 + z.fall(0, 1), 130);
    }

    private static void p26Clear() {
        of("promise 26");
        HungFromIce x = sea("l3,0,1;l3,0,1;l3,0,1;l3,0,1;t0,0,0,20;t1,0,3,9;t0,1,5,5;t0,3,20,0;");
        for (int[] bad : new int[][] {{1, 0}, {4, 4}, {0, 4}, {-1, 0}, {0, -1}}) due("clear", x.clear(bad[0], bad[1]), BAD);
        // 20 - p and 9 - p against 3: 17
        due("clear 0 0", x.clear(0, 0), 17);
        due("clear 1 1", x.clear(1, 1), 0);
        // 20 - p, 9 - p, 5 - p against 8: 12
        due("clear 0 1", x.clear(0, 1), 12);
        due("no TOWN", x.clear(2, 2), NONE);
        due("clear 2 3", x.clear(2, 3), 0);
        // against 28: 34 - 3 p: 2
        due("clear 0 3", x.clear(0, 3), 2);
        x.cut(1);
        due("CUT", x.clear(0, 0), 20);
        x.cut(0);
        due("all CUT", x.clear(0, 0), NONE);
        HungFromIce y = sea("l3,0,1;l3,0,1;" + "t0,0,0,1;t1,0,0,1;t2,0,0,1;t3,0,0,1;t4,0,0,1;t5,0,4,1;");
        due("six at one LEVEL", y.clear(0, 1), 1);
        due("none at the other one", y.clear(1, 1), NONE);
    }

    private static void p27Gain() {
        of("promise 27");
        HungFromIce x = sea("l3,0,1;l3,0,1;l3,0,1;l3,0,1;t0,1,5,9;t0,2,0,20;t1,3,3,9;");
        due("0", x.gain(0), BAD);
        due("4", x.gain(4), BAD);
        due("-1", x.gain(-1), BAD);
        due("none above", x.gain(1), NONE);
        // below 17, above 4
        due("gain 2", x.gain(2), 13);
        // below 6, above: 20 - p, 9 - p against 5: 15
        due("0 at least", x.gain(3), 0);
        x.cut(2);
        due("none below", x.gain(3), NONE);
        due("20 less 4", x.gain(2), 16);
        due("above, from LEVEL 0", sea("l3,0,1;l3,0,1;t0,0,0,3;t0,1,0,9;").gain(1), 6);
        due("of one LEVEL", sea("l3,0,1;t0,0,0,0;").gain(0), BAD);
    }

    private static void p28Drifted() {
        of("promise 28");
        HungFromIce x = sea("n5;l3,0,1;l3,0,1;");
        int[][] bad = {{2, 0, 0, 1}, {-1, 0, 0, 1}, {0, 5, 0, 1}, {0, -1, 0, 1}, {0, 0, 5, 1}, {0, 0, -1, 1}, {0, 0, 0, 0}, {0, 0, 0, 51}};
        for (int[] b : bad) due("drifted", x.drifted(b[0], b[1], b[2], b[3]), BAD);
        due("nothing", x.count(6), 0);
        for (int i = 1; i <= 6; i++) due("drifted", x.drifted(i % 2, 4, 4, 50), i);
        due("the 7th", x.drifted(0, 0, 0, 1), FULL);
        due("BAD ahead of FULL", x.drifted(0, 0, 0, 0), BAD);
        due("DRIFTED", x.count(6), 6);
    }

    private static void p29Forget() {
        of("promise 29");
        HungFromIce x = new HungFromIce();
        due("nothing", x.forget(), 0);
        x.drifted(0, 0, 1, 1);
        x.drifted(1, 0, 2, 1);
        due("two", x.forget(), 2);
        due("nothing any more", x.forget(), 0);
        due("all", x.currents(0), 127);
        due("anew", x.drifted(0, 0, 1, 1), 1);
    }

    private static void p30Currents() {
        of("promise 30");
        HungFromIce x = sea("n6;l4,0,1;l3,0,1;");
        due("-1", x.currents(-1), BAD);
        due("2", x.currents(2), BAD);
        due("all", x.currents(0), 127);
        x.drifted(0, 5, 2, 1);
        due("3 on or 3 back", x.currents(0), 65);
        due("the other LEVEL", x.currents(1), 127);
        x.drifted(0, 0, 0, 2);
        due("both so", x.currents(0), 65);
        x.drifted(0, 0, 1, 1);
        due("none", x.currents(0), 0);
        x.drifted(1, 0, 0, 3);
        due("-2, 0, 2", x.currents(1), 2 + 8 + 32);
        x.drifted(1, 3, 1, 50);
        due("50 by -2, 0, 2: 2, 0, 4 on", x.currents(1), 32);
        HungFromIce y = sea("n7;l4,0,1;");
        y.drifted(0, 1, 6, 1);
        due("2 back", y.currents(0), 2);
        y.drifted(0, 3, 1, 50);
        due("100 back is 2 back", y.currents(0), 2);
    }

    private static void leakIs(HungFromIce x, int l, int k, int n, int c, long above, long below) {
        due("leak " + l + " " + k + " " + n + " " + c + " above", x.leak(l, k, n, c, 0), above);
        due("leak " + l + " " + k + " " + n + " " + c + " below", x.leak(l, k, n, c, 1), below);
    }

    private static void p31Leak() {
        of("promise 31");
        HungFromIce x = sea("l3,9,1;l3,0,1;l3,1,1;l3,4,1;");
        int[][] bad = {{4, 0, 0, 0, 0}, {-1, 0, 0, 0, 0}, {0, 10, 0, 0, 0}, {0, -1, 0, 0, 0}, {0, 0, 10, 0, 0}, {0, 0, -1, 0, 0},
            {0, 0, 0, 11, 0}, {0, 0, 0, -1, 0}, {0, 0, 0, 0, 2}, {0, 0, 0, 0, -1}};
        for (int[] b : bad) due("leak", x.leak(b[0], b[1], b[2], b[3], b[4]), BAD);
        leakIs(x, 0, 9, 0, 5, 1, 1);
        leakIs(x, 1, 1, 0, 5, 0, 1);
        leakIs(x, 1, 0, 9, 10, 1, 1);
        leakIs(x, 0, 0, 9, 10, 1, 1);
        leakIs(x, 0, 1, 9, 10, 0, 1);
        leakIs(x, 0, 9, 9, 0, 1, 1);
        leakIs(x, 0, 9, 1, 3, 7, 10);
        leakIs(x, 0, 9, 1, 4, 3, 5);
        leakIs(x, 0, 9, 9, 3, 40353607L, 1000000000L);
        leakIs(x, 0, 1, 9, 3, 1000000000L - 19683L, 1000000000L);
        leakIs(x, 2, 1, 9, 9, 1, 1000000000L);
        leakIs(x, 2, 0, 9, 9, 1, 1);
        leakIs(x, 3, 3, 2, 5, 3, 4);
        leakIs(x, 3, 2, 4, 5, 11, 16);
        leakIs(x, 3, 5, 4, 5, 0, 1);
        x.steps(9);
        leakIs(x, 3, 3, 2, 5, 3, 4);
    }

    private static void p32Year() {
        of("promise 32");
        HungFromIce x = new HungFromIce();
        int[][] bad = {{-1, 1, 0}, {10000, 1, 0}, {0, 0, 0}, {0, 61, 0}, {0, 1, 2}, {0, 1, -2}};
        for (int[] b : bad) due("year", x.year(b[0], b[1], b[2]), BAD);
        due("all", x.year(5, 60, -1), 18);
        due("by 0", x.year(5, 60, 0), 11);
        due("by 1", x.year(5, 60, 1), 7);
        // z = 0, k = 0: x = 1, DRAW = 1: LEVEL 1 modulo how many, PLACE 0, WEIGHT 0
        due("CAUGHT where it stays", sea("n4;l3,0,1;t0,0,0,0;").year(0, 1, 0), 1);
        due("CAUGHT in its first STEP only", sea("n4;l4,0,1;t0,0,0,0;").year(0, 1, 0), 1);
        due("not CAUGHT", sea("n4;l3,0,1;t1,0,0,0;").year(0, 1, -1), 0);
        // k = 1: x = 6152, DRAW = 41487 (37847104 less 577 times 65521): LEVEL 1 of 2, PLACE 1 (of 5185), WEIGHT 2 (of 162)
        HungFromIce one = sea("n24;l3,0,1;l3,2,1;t1,1,0,0;t2,1,0,0;");
        due("DRAW 1", one.year(0, 2, 0) - one.year(0, 1, 0), 1);
        HungFromIce far = sea("n24;l3,5,1;l3,5,1;l3,5,1;");
        due("no TOWNS", far.year(9999, 60, -1), 0);
        // z = 9999, k = 59: the greatest x; WEIGHT tells the LEVEL
        long g = 7919L * 9999 + 6151L * 59 + 1;
        int last = (int) (g * g % 65521);
        HungFromIce great = sea("n24;l3," + last / 256 % 10 + ",1;t" + last / 8 % 24 + ",0,0,0;");
        due("the greatest", great.year(9999, 60, 0) - great.year(9999, 59, 0), 1);
        x.cut(0);
        due("CUT", x.year(5, 60, 0), NO);
        due("BAD ahead of NO", x.year(5, 61, 0), BAD);
        due("by the other one is all", x.year(5, 60, -1) - x.year(5, 60, 1), 0);
        due("the THINGS there are do not bear on it", x.count(3), 2);
    }

    private static void p33Keep() {
        of("promise 33");
        HungFromIce x = new HungFromIce();
        due("1", x.keep(), 1);
        x.steps(1);
        due("2", x.keep(), 2);
        due("3", x.keep(), FULL);
        due("KEPT", x.count(8), 2);
        due("UNDONE as before", x.undo(), 0);
        due("KEPT still", x.count(8), 2);
        x.back();
        due("as KEPT, not FULL's", x.count(4), 1);
        due("again", x.keep(), 2);
    }

    private static void p34Back() {
        of("promise 34");
        HungFromIce x = sea("n6;l4,5,1;l3,5,1;t2,0,0,0;t4,0,0,0;g0,0,5;");
        due("nothing", x.back(), NO);
        x.steps(2);
        x.keep();
        x.hang(0, 3);
        x.keep();
        x.cut(1);
        x.letGo(0, 4);
        x.steps(7);
        x.heard(0, 7);
        x.drifted(0, 0, 0, 7);
        due("to the last", x.back(), 1);
        due("TOWN 1 hangs", x.town(1, 4), 0);
        due("TOWN 0 at", x.town(0, 1), 3);
        due("THINGS", x.count(3), 1);
        due("THING 0 at", x.thing(0, 1), 3);
        due("CAUGHT", x.thing(0, 3), 0);
        due("STEPS", x.count(4), 2);
        due("nothing is UNDONE", x.undo(), NO);
        due("HEARD stays", x.count(5), 1);
        due("DRIFTED stays", x.count(6), 1);
        x.steps(3);
        due("to the first", x.back(), 0);
        due("TOWN 0 at", x.town(0, 1), 2);
        due("nothing can be UNDONE", x.count(7), 0);
        due("STEPS", x.count(4), 2);
        x.steps(1);
        due("nothing KEPT", x.back(), NO);
        due("nothing changes by NO", x.count(7), 1);
        HungFromIce y = sea("n6;l4,5,1;l3,5,1;t2,0,0,0;g0,0,7;");
        y.letGo(0, 5);
        y.keep();
        y.undo();
        y.letGo(0, 8);
        y.steps(1);
        y.back();
        due("WEIGHT as KEPT", y.thing(1, 2), 5);
        due("LEVEL as KEPT", y.thing(0, 0), 0);
        due("PLACE as KEPT", y.thing(1, 1), 2);
    }

    private static void p35Count() {
        of("promise 35");
        HungFromIce x = sea("n9;l3,0,1;l3,0,1;l3,0,1;l3,0,1;t0,0,0,0;t1,0,0,0;t2,0,0,0;g0,0,0;g0,1,0;");
        x.steps(7);
        x.cut(2);
        x.heard(0, 0);
        x.heard(1, 0);
        x.heard(0, 0);
        x.drifted(0, 0, 0, 1);
        x.drifted(0, 0, 0, 1);
        x.drifted(0, 0, 0, 1);
        x.drifted(0, 0, 0, 1);
        x.keep();
        x.wipe();
        x.write('n');
        int[] want = {4, 9, 3, 3, 7, 3, 4, 2, 1, 1};
        for (int i = 0; i < 10; i++) due("count " + i, x.count(i), want[i]);
        due("count 10", x.count(10), BAD);
        due("count -1", x.count(-1), BAD);
    }
}
