import java.util.ArrayList;
import java.util.List;
import java.util.function.Supplier;
import java.util.function.ToLongFunction;

/** "BAD, NO, NONE, FULL. Of several the first in this order, whatever the order at a call; nothing changes then." */
public final class RefusalTest extends Seas {
    private static final int LOWEST = Integer.MIN_VALUE, HIGHEST = Integer.MAX_VALUE;
    /** What is told of a sea: all as it is now, all that can be UNDONE, all that is KEPT and written. */
    private static final int NOW = 0, UNDONE = 1, KEPT = 2;

    private static Supplier<HungFromIce> made = RefusalTest::rich;

    public static void main(String[] args) {
        writing();
        laying();
        ofLevelsTownsThings();
        steps();
        lettingGo();
        hanging();
        cutting();
        undoing();
        behindMeetRound();
        timeHearsShadow();
        hearing();
        whenceMoved();
        sending();
        falling();
        paying();
        drifting();
        leaking();
        years();
        keeping();
        counting();
        askingChangesNothing();
        end("all that is refused changes nothing");
    }

    /** 3 LEVELS, 9 PLACES, TOWNS 0 and 1, TOWN 2 CUT, 4 THINGS, something of all that can change. */
    private static HungFromIce rich() {
        HungFromIce x = sea("n9;l4,3,2;l2,6,1;l3,5,3;t0,0,3,9;t5,1,2,6;t2,2,4,1;m1,2;g0,3,5;g1,5,6;");
        x.steps(2);
        x.heard(0, 7);
        x.heard(1, 9);
        x.drifted(0, 1, 3, 2);
        x.drifted(1, 0, 0, 9);
        x.letGo(1, 4);
        x.keep();
        x.hang(1, 6);
        x.cut(2);
        x.steps(3);
        write(x, "n5;l3,0");
        return x;
    }

    private static HungFromIce withSevenThings() {
        HungFromIce x = rich();
        x.letGo(0, 9);
        x.letGo(1, 0);
        x.letGo(0, 3);
        due("THINGS", x.count(3), 7);
        return x;
    }

    private static HungFromIce withSixHeard() {
        HungFromIce x = rich();
        for (int i = 2; i < 6; i++) x.heard(i % 2, i);
        due("HEARD", x.count(5), 6);
        return x;
    }

    private static HungFromIce withSixDrifted() {
        HungFromIce x = rich();
        for (int i = 2; i < 6; i++) x.drifted(2, i, i, i);
        due("DRIFTED", x.count(6), 6);
        return x;
    }

    private static HungFromIce withTwoKept() {
        HungFromIce x = rich();
        x.keep();
        x.steps(1);
        due("KEPT", x.count(8), 2);
        return x;
    }

    private static HungFromIce withAllWritten() {
        HungFromIce x = new HungFromIce();
        for (int i = 0; i < 66; i++) for (char c : "n4;".toCharArray()) x.write(c);
        x.write('l');
        x.write('3');
        x.steps(1);
        due("letters", x.count(9), 200);
        return x;
    }

    /** With 9999 STEPS gone by. */
    private static HungFromIce old() {
        HungFromIce x = new HungFromIce();
        for (int i = 0; i < 166; i++) x.steps(60);
        x.hang(0, 4);
        x.cut(1);
        x.steps(39);
        x.keep();
        due("STEPS", x.count(4), 9999);
        return x;
    }

    private static void refused(String call, long want, ToLongFunction<HungFromIce> calls) {
        for (int way = NOW; way <= KEPT; way++) {
            HungFromIce x = made.get(), same = made.get();
            due(call, calls.applyAsLong(x), want);
            due(call + " again", calls.applyAsLong(x), want);
            if (!told(x, way).equals(told(same, way))) due(call + ": something has changed", 1, 0);
        }
    }

    private static void bad(String call, ToLongFunction<HungFromIce> calls) {
        refused(call, BAD, calls);
    }

    private static List<Long> told(HungFromIce x, int way) {
        List<Long> all = new ArrayList<>();
        if (way == NOW) tellNow(x, all);
        if (way == UNDONE) tellUndone(x, all);
        if (way == KEPT) tellKept(x, all);
        return all;
    }

    private static void tellNow(HungFromIce x, List<Long> all) {
        for (int i = 0; i < 10; i++) all.add((long) x.count(i));
        for (int l = 0; l < x.count(0); l++) {
            for (int i = 0; i < 3; i++) all.add((long) x.level(l, i));
            all.add((long) x.currents(l));
            all.add(x.leak(l, 3, 2, 5, 0));
            all.add((long) x.time(0, 0, l, 3));
        }
        for (int t = 0; t < x.count(2); t++) {
            for (int i = 0; i < 5; i++) all.add((long) x.town(t, i));
            all.add((long) x.hears(t, 9));
            all.add((long) x.shadow(t));
            all.add((long) x.fall(t, 0));
            all.add((long) x.sent(t, (t + 1) % x.count(2), 1));
        }
        for (int g = 0; g < x.count(3); g++) {
            for (int i = 0; i < 4; i++) all.add((long) x.thing(g, i));
            for (int i = 0; i < 3; i++) all.add((long) x.behind(7, g, i));
            all.add((long) x.meet(g, 0));
            all.add((long) x.round(g));
        }
        for (int i = 0; i < 2; i++) all.add((long) x.whence(i));
        for (int i = 0; i < 3; i++) all.add((long) x.moved(3, i));
        all.add((long) x.clear(0, x.count(0) - 1));
        all.add((long) x.gain(1));
        all.add((long) x.year(3, 20, -1));
        all.add((long) x.fault());
        all.add((long) x.hush());
        all.add((long) x.forget());
    }

    private static void tellTownsAndThings(HungFromIce x, List<Long> all) {
        all.add((long) x.count(3));
        all.add((long) x.count(4));
        for (int t = 0; t < x.count(2); t++) for (int i = 1; i < 5; i += 3) all.add((long) x.town(t, i));
        for (int g = 0; g < x.count(3); g++) for (int i = 0; i < 4; i++) all.add((long) x.thing(g, i));
    }

    private static void tellUndone(HungFromIce x, List<Long> all) {
        for (int i = 0; i < 9; i++) {
            all.add((long) x.undo());
            tellTownsAndThings(x, all);
        }
    }

    private static void tellKept(HungFromIce x, List<Long> all) {
        for (int i = 0; i < 3; i++) {
            all.add((long) x.back());
            tellTownsAndThings(x, all);
        }
        for (char c : ",9;".toCharArray()) all.add((long) x.write(c));
        all.add((long) x.fault());
        all.add((long) x.lay());
        for (int i = 0; i < 10; i++) all.add((long) x.count(i));
        all.add((long) x.wipe());
    }

    private static void writing() {
        of("write: BAD; FULL");
        made = RefusalTest::rich;
        for (int c : new int[] {31, 127, 0, -1, 10, 255, LOWEST, HIGHEST}) bad("write " + c, x -> x.write(c));
        made = RefusalTest::withAllWritten;
        refused("write of the 201st", FULL, x -> x.write(';'));
        refused("write of the 201st", FULL, x -> x.write(32));
        for (int c : new int[] {31, 127, LOWEST, HIGHEST}) bad("write " + c + ": BAD ahead of FULL", x -> x.write(c));
    }

    private static void laying() {
        of("lay: NO");
        made = RefusalTest::rich;
        refused("lay of a TEXT with FAULT", NO, x -> x.lay());
        made = RefusalTest::withAllWritten;
        refused("lay of a TEXT with FAULT at its end", NO, x -> x.lay());
        for (String text : new String[] {"", "n5;", "t1,0,0,0;", "l3,0,1;t1,1,0,0;", "l3,0,1;m1,1;", "l3,0,1;g1,1,0;",
            "l3,0,1;t1,0,0,0;t1,0,0,0;", "l3,0,1;t1,0,0,0;m0,1;"}) {
            made = () -> {
                HungFromIce x = new HungFromIce();
                x.steps(3);
                x.keep();
                x.hang(0, 7);
                x.heard(1, 3);
                x.drifted(2, 0, 3, 1);
                write(x, text);
                return x;
            };
            refused("lay of " + text, NO, x -> x.lay());
        }
    }

    private static void ofLevelsTownsThings() {
        made = RefusalTest::rich;
        of("level: BAD");
        for (int l : new int[] {-1, 3, 7, 8, LOWEST, HIGHEST}) for (int i = 0; i < 3; i++) level(l, i);
        for (int i : new int[] {-1, 3, LOWEST, HIGHEST}) level(0, i);
        level(3, 3);
        of("town: BAD");
        for (int t : new int[] {-1, 3, 5, 6, LOWEST, HIGHEST}) for (int i = 0; i < 5; i++) town(t, i);
        for (int i : new int[] {-1, 5, LOWEST, HIGHEST}) {
            town(0, i);
            town(2, i);
        }
        of("thing: BAD");
        for (int g : new int[] {-1, 4, 6, 7, LOWEST, HIGHEST}) for (int i = 0; i < 4; i++) thing(g, i);
        for (int i : new int[] {-1, 4, LOWEST, HIGHEST}) thing(0, i);
    }

    private static void level(int l, int what) {
        bad("level " + l + " " + what, x -> x.level(l, what));
    }

    private static void town(int t, int what) {
        bad("town " + t + " " + what, x -> x.town(t, what));
    }

    private static void thing(int g, int what) {
        bad("thing " + g + " " + what, x -> x.thing(g, what));
    }

    private static void steps() {
        of("steps: BAD; NO: above 9999");
        made = RefusalTest::rich;
        int[] none = {0, -1, 61, 62, 9999, LOWEST, HIGHEST};
        for (int n : none) bad("steps " + n, x -> x.steps(n));
        made = RefusalTest::old;
        for (int n : new int[] {1, 2, 59, 60}) refused("steps " + n, NO, x -> x.steps(n));
        for (int n : none) bad("steps " + n + ": BAD ahead of NO", x -> x.steps(n));
    }

    private static void lettingGo() {
        of("letGo: BAD; NO: CUT; FULL");
        int[][] none = {{-1, 0}, {3, 0}, {6, 9}, {LOWEST, 0}, {HIGHEST, 0}, {0, -1}, {0, 10}, {1, LOWEST}, {1, HIGHEST}, {3, 10},
            {2, 10}, {2, -1}};
        made = RefusalTest::rich;
        for (int[] n : none) bad("letGo " + n[0] + " " + n[1], x -> x.letGo(n[0], n[1]));
        refused("letGo of a CUT one", NO, x -> x.letGo(2, 0));
        refused("letGo of a CUT one", NO, x -> x.letGo(2, 9));
        made = RefusalTest::withSevenThings;
        refused("letGo of an 8th", FULL, x -> x.letGo(0, 0));
        refused("letGo of an 8th", FULL, x -> x.letGo(1, 9));
        refused("letGo of a CUT one: NO ahead of FULL", NO, x -> x.letGo(2, 5));
        for (int[] n : none) bad("letGo " + n[0] + " " + n[1] + ": BAD ahead of FULL", x -> x.letGo(n[0], n[1]));
    }

    private static void hanging() {
        of("hang: BAD; NO");
        made = RefusalTest::rich;
        int[][] none = {{-1, 0}, {3, 0}, {6, 0}, {LOWEST, 0}, {HIGHEST, 0}, {0, -1}, {0, 9}, {0, 23}, {1, LOWEST}, {1, HIGHEST},
            {3, 9}, {2, 9}, {2, -1}};
        for (int[] n : none) bad("hang " + n[0] + " " + n[1], x -> x.hang(n[0], n[1]));
        refused("hang where it is", NO, x -> x.hang(0, 0));
        refused("hang where it is HUNG", NO, x -> x.hang(1, 6));
        refused("hang at a MARKET", NO, x -> x.hang(1, 2));
        for (int to = 0; to < 9; to++) {
            int place = to;
            refused("hang of a CUT one", NO, x -> x.hang(2, place));
        }
        made = () -> sea("n9;l3,5,1;t0,0,0,0;t8,0,0,0;m0,4;m0,7;");
        refused("hang at a TOWN", NO, x -> x.hang(0, 8));
        refused("hang at a TOWN", NO, x -> x.hang(1, 0));
        refused("hang at the first MARKET", NO, x -> x.hang(0, 4));
        refused("hang at the last MARKET", NO, x -> x.hang(0, 7));
    }

    private static void cutting() {
        of("cut: BAD; NO: it is; FULL");
        int[] none = {-1, 3, 6, LOWEST, HIGHEST};
        made = RefusalTest::rich;
        for (int t : none) bad("cut " + t, x -> x.cut(t));
        refused("cut of a CUT one", NO, x -> x.cut(2));
        made = RefusalTest::withSevenThings;
        refused("cut to an 8th", FULL, x -> x.cut(0));
        refused("cut to an 8th", FULL, x -> x.cut(1));
        refused("cut of a CUT one: NO ahead of FULL", NO, x -> x.cut(2));
        for (int t : none) bad("cut " + t + ": BAD ahead of FULL", x -> x.cut(t));
    }

    private static void undoing() {
        of("undo: NO");
        made = HungFromIce::new;
        refused("undo of nothing", NO, x -> x.undo());
        made = () -> {
            HungFromIce x = withTwoKept();
            x.back();
            return x;
        };
        refused("undo behind back", NO, x -> x.undo());
        made = () -> {
            HungFromIce x = rich();
            for (int i = 0; i < 5; i++) x.undo();
            return x;
        };
        refused("undo behind all of them", NO, x -> x.undo());
        of("back: NO");
        made = () -> {
            HungFromIce x = rich();
            x.back();
            x.steps(1);
            return x;
        };
        refused("back behind the last one", NO, x -> x.back());
        made = () -> {
            HungFromIce x = new HungFromIce();
            x.steps(1);
            return x;
        };
        refused("back of nothing", NO, x -> x.back());
    }

    private static void behindMeetRound() {
        made = RefusalTest::rich;
        of("behind: BAD");
        for (int n : new int[] {-1, 61, LOWEST, HIGHEST}) for (int i = 0; i < 3; i++) behind(n, 0, i);
        for (int g : new int[] {-1, 4, 7, LOWEST, HIGHEST}) for (int i = 0; i < 3; i++) behind(0, g, i);
        for (int i : new int[] {-1, 3, LOWEST, HIGHEST}) behind(60, 3, i);
        of("meet: BAD (g and h alike, too)");
        for (int g : new int[] {-1, 4, 7, LOWEST, HIGHEST}) {
            bad("meet " + g + " 0", x -> x.meet(g, 0));
            bad("meet 0 " + g, x -> x.meet(0, g));
            bad("meet " + g + " " + g, x -> x.meet(g, g));
        }
        for (int g = 0; g < 4; g++) {
            int both = g;
            bad("meet of one", x -> x.meet(both, both));
        }
        of("round: BAD");
        for (int g : new int[] {-1, 4, 7, LOWEST, HIGHEST}) bad("round " + g, x -> x.round(g));
        of("meet: NONE");
        made = () -> {
            HungFromIce x = sea("n9;l3,5,1;t0,0,0,0;g0,0,5;g0,0,5;g0,1,5;");
            x.steps(1);
            return x;
        };
        refused("meet of CAUGHT ones", NONE, x -> x.meet(0, 1));
        refused("meet of one that is CAUGHT", NONE, x -> x.meet(2, 1));
        bad("meet of a CAUGHT one alone: BAD ahead of NONE", x -> x.meet(0, 0));
        bad("meet of a CAUGHT one with none: BAD ahead of NONE", x -> x.meet(0, 3));
    }

    private static void behind(int n, int g, int what) {
        bad("behind " + n + " " + g + " " + what, x -> x.behind(n, g, what));
    }

    private static void timeHearsShadow() {
        made = RefusalTest::rich;
        of("time: BAD");
        for (int no : new int[] {-1, LOWEST, HIGHEST}) {
            bad("time by " + no, x -> x.time(no, 0, 0, 0));
            bad("time by " + no, x -> x.time(0, no, 0, 0));
            bad("time by " + no, x -> x.time(0, 0, no, 0));
            bad("time by " + no, x -> x.time(0, 0, 0, no));
        }
        bad("time from LEVEL 3", x -> x.time(3, 0, 0, 0));
        bad("time to LEVEL 3", x -> x.time(0, 0, 3, 0));
        bad("time from PLACE 9", x -> x.time(0, 9, 0, 0));
        bad("time to PLACE 9", x -> x.time(0, 0, 0, 9));
        refused("time from a MARKET", NONE, x -> x.time(1, 2, 0, 0));
        refused("time to a MARKET", NONE, x -> x.time(0, 0, 1, 2));
        bad("time from a MARKET to LEVEL 3: BAD ahead of NONE", x -> x.time(1, 2, 3, 0));
        bad("time from a MARKET to PLACE 9: BAD ahead of NONE", x -> x.time(1, 2, 0, 9));
        bad("time from LEVEL 3 to a MARKET: BAD ahead of NONE", x -> x.time(3, 0, 1, 2));
        of("hears: BAD; NO: CUT");
        int[][] none = {{-1, 0}, {3, 0}, {6, 0}, {LOWEST, 0}, {HIGHEST, 0}, {0, -1}, {0, 100}, {1, LOWEST}, {1, HIGHEST}, {3, 100}};
        for (int[] n : none) bad("hears " + n[0] + " " + n[1], x -> x.hears(n[0], n[1]));
        refused("hears of a CUT one", NO, x -> x.hears(2, 0));
        refused("hears of a CUT one", NO, x -> x.hears(2, 99));
        bad("hears of a CUT one: BAD ahead of NO", x -> x.hears(2, 100));
        bad("hears of a CUT one: BAD ahead of NO", x -> x.hears(2, -1));
        of("shadow: BAD; NO: CUT");
        for (int t : new int[] {-1, 3, 6, LOWEST, HIGHEST}) bad("shadow " + t, x -> x.shadow(t));
        refused("shadow of a CUT one", NO, x -> x.shadow(2));
    }

    private static void hearing() {
        of("heard: BAD; NO: CUT; FULL");
        int[][] none = {{-1, 0}, {3, 0}, {6, 0}, {LOWEST, 0}, {HIGHEST, 0}, {0, -1}, {0, 100}, {1, LOWEST}, {1, HIGHEST}, {3, 100},
            {2, 100}, {2, -1}};
        made = RefusalTest::rich;
        for (int[] n : none) bad("heard " + n[0] + " " + n[1], x -> x.heard(n[0], n[1]));
        refused("heard of a CUT one", NO, x -> x.heard(2, 0));
        refused("heard of a CUT one", NO, x -> x.heard(2, 99));
        made = RefusalTest::withSixHeard;
        refused("heard of a 7th", FULL, x -> x.heard(0, 0));
        refused("heard of a 7th", FULL, x -> x.heard(1, 99));
        refused("heard of a CUT one: NO ahead of FULL", NO, x -> x.heard(2, 9));
        for (int[] n : none) bad("heard " + n[0] + " " + n[1] + ": BAD ahead of FULL", x -> x.heard(n[0], n[1]));
    }

    private static void whenceMoved() {
        of("whence: BAD");
        made = RefusalTest::rich;
        int[] noWhat = {-1, 2, LOWEST, HIGHEST};
        for (int what : noWhat) bad("whence " + what, x -> x.whence(what));
        made = () -> {
            HungFromIce x = rich();
            x.heard(0, 8);
            return x;
        };
        refused("whence of none: how many", 0, x -> x.whence(0));
        refused("whence of none: the lowest", NONE, x -> x.whence(1));
        for (int what : noWhat) bad("whence " + what + " of none", x -> x.whence(what));
        of("moved: NONE; BAD");
        made = RefusalTest::rich;
        for (int b : new int[] {-1, 100, LOWEST, HIGHEST}) for (int i = 0; i < 3; i++) moved(b, i);
        for (int what : new int[] {-1, 3, LOWEST, HIGHEST}) {
            moved(99, what);
            moved(0, what);
        }
        for (int i = 0; i < 3; i++) {
            int what = i;
            refused("moved within 0 beats", NONE, x -> x.moved(0, what));
        }
        refused("moved 0: the first", NONE, x -> x.moved(99, 1));
        refused("moved 0: the second", NONE, x -> x.moved(99, 2));
    }

    private static void moved(int b, int what) {
        bad("moved " + b + " " + what, x -> x.moved(b, what));
    }

    private static void sending() {
        of("sent: NONE; BAD (alike, too); NO: one is CUT");
        made = RefusalTest::rich;
        int[][] none = {{-1, 0, 0}, {3, 0, 0}, {6, 0, 0}, {LOWEST, 0, 0}, {HIGHEST, 0, 0}, {0, -1, 0}, {0, 3, 0}, {0, 6, 0},
            {0, LOWEST, 0}, {0, HIGHEST, 0}, {0, 1, -1}, {0, 1, 2}, {0, 1, LOWEST}, {0, 1, HIGHEST}, {0, 0, 0}, {1, 1, 1}, {3, 3, 0},
            {2, 2, 0}, {2, 0, 2}, {0, 2, -1}, {2, 3, 0}, {-1, 2, 0}};
        for (int[] n : none) bad("sent " + n[0] + " " + n[1] + " " + n[2], x -> x.sent(n[0], n[1], n[2]));
        for (int i = 0; i < 2; i++) {
            int what = i;
            refused("sent from a CUT one", NO, x -> x.sent(2, 0, what));
            refused("sent to a CUT one", NO, x -> x.sent(0, 2, what));
        }
        made = () -> {
            HungFromIce x = rich();
            x.cut(1);
            return x;
        };
        refused("sent from a CUT one to a CUT one", NO, x -> x.sent(1, 2, 0));
        made = () -> sea("n9;l3,5,1;t0,0,0,0;t1,0,0,0;t2,0,0,0;");
        refused("sent never", NONE, x -> x.sent(0, 1, 0));
        refused("sent never", NONE, x -> x.sent(0, 1, 1));
        bad("sent never: BAD ahead of NONE", x -> x.sent(0, 1, 2));
        bad("sent never: BAD ahead of NONE", x -> x.sent(0, 0, 0));
        made = () -> {
            HungFromIce x = sea("n9;l3,5,1;t0,0,0,0;t1,0,0,0;t2,0,0,0;");
            x.cut(1);
            return x;
        };
        refused("sent never: NO ahead of NONE", NO, x -> x.sent(0, 1, 0));
        refused("sent never: NO ahead of NONE", NO, x -> x.sent(1, 0, 1));
    }

    private static void falling() {
        of("fall: NONE; BAD; NO: it is CUT");
        made = RefusalTest::rich;
        int[][] none = {{-1, 0}, {3, 0}, {6, 1}, {LOWEST, 0}, {HIGHEST, 0}, {0, -1}, {0, 2}, {1, LOWEST}, {1, HIGHEST}, {2, 2}, {2, -1}};
        for (int[] n : none) bad("fall " + n[0] + " " + n[1], x -> x.fall(n[0], n[1]));
        refused("fall of a CUT one", NO, x -> x.fall(2, 0));
        refused("fall of a CUT one", NO, x -> x.fall(2, 1));
        made = () -> {
            HungFromIce x = sea("n9;l3,5,1;t0,0,0,0;t1,0,0,0;");
            x.cut(1);
            return x;
        };
        refused("fall to nobody", NONE, x -> x.fall(0, 0));
        refused("fall to nobody", NONE, x -> x.fall(0, 1));
        bad("fall to nobody: BAD ahead of NONE", x -> x.fall(0, 2));
        refused("fall of a CUT one: NO ahead of NONE", NO, x -> x.fall(1, 0));
    }

    private static void paying() {
        of("clear: NONE; BAD (b below a, too)");
        made = RefusalTest::rich;
        int[][] none = {{-1, 0}, {3, 3}, {0, 3}, {0, -1}, {1, 0}, {2, 1}, {2, 0}, {LOWEST, 0}, {HIGHEST, HIGHEST}, {0, HIGHEST},
            {0, LOWEST}, {-1, 3}, {3, 2}};
        for (int[] n : none) bad("clear " + n[0] + " " + n[1], x -> x.clear(n[0], n[1]));
        refused("clear where the TOWN is CUT", NONE, x -> x.clear(2, 2));
        bad("clear to no LEVEL: BAD ahead of NONE", x -> x.clear(2, 3));
        of("gain: NONE; BAD (a 1 or more)");
        for (int a : new int[] {0, -1, 3, 8, LOWEST, HIGHEST}) bad("gain " + a, x -> x.gain(a));
        refused("gain where the TOWN below is CUT", NONE, x -> x.gain(2));
        made = () -> {
            HungFromIce x = rich();
            x.cut(0);
            x.cut(1);
            return x;
        };
        for (int a : new int[] {0, -1, 3}) bad("gain " + a + ": BAD ahead of NONE", x -> x.gain(a));
        refused("gain where all are CUT", NONE, x -> x.gain(1));
        refused("clear where all are CUT", NONE, x -> x.clear(0, 2));
        bad("clear where all are CUT: BAD ahead of NONE", x -> x.clear(1, 0));
    }

    private static void drifting() {
        of("drifted: BAD; FULL");
        int[][] none = {{-1, 0, 0, 1}, {3, 0, 0, 1}, {0, -1, 0, 1}, {0, 9, 0, 1}, {0, 0, -1, 1}, {0, 0, 9, 1}, {0, 0, 0, 0},
            {0, 0, 0, 51}, {LOWEST, 0, 0, 1}, {HIGHEST, 0, 0, 1}, {0, LOWEST, 0, 1}, {0, HIGHEST, 0, 1}, {0, 0, LOWEST, 1},
            {0, 0, HIGHEST, 1}, {0, 0, 0, LOWEST}, {0, 0, 0, HIGHEST}, {3, 9, 9, 51}};
        made = RefusalTest::rich;
        for (int[] n : none) bad("drifted " + n[0] + " " + n[1] + " " + n[2] + " " + n[3], x -> x.drifted(n[0], n[1], n[2], n[3]));
        made = RefusalTest::withSixDrifted;
        refused("drifted a 7th", FULL, x -> x.drifted(0, 0, 1, 1));
        refused("drifted a 7th", FULL, x -> x.drifted(2, 8, 8, 50));
        for (int[] n : none) bad("drifted " + n[0] + " " + n[1] + ": BAD ahead of FULL", x -> x.drifted(n[0], n[1], n[2], n[3]));
        of("currents: BAD");
        for (int l : new int[] {-1, 3, 8, LOWEST, HIGHEST}) bad("currents " + l, x -> x.currents(l));
    }

    private static void leaking() {
        of("leak: BAD");
        made = RefusalTest::rich;
        for (int l : new int[] {-1, 3, LOWEST, HIGHEST}) leak(l, 0, 0, 0, 0);
        for (int k : new int[] {-1, 10, LOWEST, HIGHEST}) leak(0, k, 0, 0, 1);
        for (int n : new int[] {-1, 10, LOWEST, HIGHEST}) leak(0, 0, n, 0, 0);
        for (int c : new int[] {-1, 11, LOWEST, HIGHEST}) leak(0, 0, 0, c, 1);
        for (int part : new int[] {-1, 2, LOWEST, HIGHEST}) leak(2, 9, 9, 10, part);
    }

    private static void leak(int l, int k, int n, int c, int part) {
        bad("leak " + l + " " + k + " " + n + " " + c + " " + part, x -> x.leak(l, k, n, c, part));
    }

    private static void years() {
        of("year: BAD; NO: CUT");
        made = RefusalTest::rich;
        for (int z : new int[] {-1, 10000, LOWEST, HIGHEST}) for (int t = -1; t < 3; t++) year(z, 1, t);
        for (int n : new int[] {0, -1, 61, LOWEST, HIGHEST}) for (int t = -1; t < 3; t++) year(0, n, t);
        for (int t : new int[] {-2, 3, 6, LOWEST, HIGHEST}) year(9999, 60, t);
        refused("year of a CUT one", NO, x -> x.year(0, 1, 2));
        refused("year of a CUT one", NO, x -> x.year(9999, 60, 2));
    }

    private static void year(int z, int n, int t) {
        bad("year " + z + " " + n + " " + t, x -> x.year(z, n, t));
    }

    private static void keeping() {
        of("keep: FULL");
        made = RefusalTest::withTwoKept;
        refused("keep of a third one", FULL, x -> x.keep());
    }

    private static void counting() {
        of("count: BAD");
        made = RefusalTest::rich;
        for (int what : new int[] {-1, 10, LOWEST, HIGHEST}) bad("count " + what, x -> x.count(what));
    }

    private static void asked(String call, ToLongFunction<HungFromIce> calls) {
        refused(call, calls.applyAsLong(made.get()), calls);
    }

    private static void askingChangesNothing() {
        of("calls that only ask");
        made = RefusalTest::rich;
        asked("fault", x -> x.fault());
        for (int i = 0; i < 10; i++) {
            int n = i;
            asked("count", x -> x.count(n));
            asked("level", x -> x.level(n % 3, n % 3));
            asked("town", x -> x.town(n % 3, n % 5));
            asked("thing", x -> x.thing(n % 4, n % 4));
            asked("behind", x -> x.behind(6 * n, n % 4, n % 3));
            asked("meet", x -> x.meet(n % 4, (n + 1) % 4));
            asked("round", x -> x.round(n % 4));
            asked("time", x -> x.time(n % 3, n % 9, (n + 1) % 3, 8 - n % 9));
            asked("hears", x -> x.hears(n % 2, 11 * n));
            asked("shadow", x -> x.shadow(n % 2));
            asked("whence", x -> x.whence(n % 2));
            asked("moved", x -> x.moved(n, n % 3));
            asked("sent", x -> x.sent(n % 2, 1 - n % 2, n / 5));
            asked("fall", x -> x.fall(n % 2, n / 5));
            asked("clear", x -> x.clear(0, n % 3));
            asked("gain", x -> x.gain(1 + n % 2));
            asked("currents", x -> x.currents(n % 3));
            asked("leak", x -> x.leak(n % 3, n % 6, n, n, n % 2));
            asked("year", x -> x.year(n, 6 * n + 6, n % 3 - 1));
        }
        asked("moved that finds none", x -> x.moved(0, 0));
        asked("moved that finds one", x -> x.moved(4, 0));
    }
}
