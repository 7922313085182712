/** Part 4 of the document: SENT, FALL, PRICES, DRIFTED, LEAKS and YEARS, from the least to the most. */
public final class PayEdgesTest extends Seas {
    public static void main(String[] args) {
        sentOfEachWeight();
        sentSoonest();
        sentByNoneOfItsOwn();
        sentFar();
        sentAsTheyHang();
        fallen();
        fallenFar();
        pricesThatClear();
        pricesOfLevels();
        gains();
        driftedSix();
        boundsOfDrifted();
        currentsBothWays();
        currentsOfALevel();
        leaks();
        boundsOfLeak();
        yearsOfOneLevel();
        yearsOfLevels();
        yearsLate();
        boundsOfYear();
        end("all edges of what is sent, paid, drifted, leaked and drawn hold");
    }

    private static void sentTo(HungFromIce x, int a, int b, int weight, int steps) {
        due("sent " + a + " " + b + " 0", x.sent(a, b, 0), weight);
        due("sent " + a + " " + b + " 1", x.sent(a, b, 1), steps);
    }

    private static void sentOfEachWeight() {
        of("SENT: of WEIGHTS (0 to 9)");
        // from the middle LEVEL: what is heavier than W sinks, what is lighter rises, W itself stays
        for (int w = 0; w <= 9; w++) {
            HungFromIce x = sea("n6;l3,0,1;l4," + w + ",1;l3,9,1;t0,1,0,0;t1,0,0,0;t1,1,0,0;t1,2,0,0;");
            sentTo(x, 0, 1, w > 0 ? 0 : NONE, w > 0 ? 1 : NONE);
            sentTo(x, 0, 2, w, 1);
            sentTo(x, 0, 3, w < 9 ? w + 1 : NONE, w < 9 ? 1 : NONE);
        }
        sentTo(sea("n6;l3,8,1;l3,9,1;t0,0,0,0;t0,1,0,0;"), 0, 1, 9, 1);
        sentTo(sea("n6;l3,0,1;l3,1,1;t0,1,0,0;t0,0,0,0;"), 0, 1, 0, 1);
    }

    private static void sentSoonest() {
        of("SENT: that by which it is behind fewest, of several the lowest");
        // 9 sinks and goes on by 2; 5 to 8 sink and rise by turns, by 3 in 2 STEPS; 0 to 4 stay above
        HungFromIce x = sea("n24;l4,4,1;l5,9,1;t0,0,0,0;t7,1,0,0;t1,1,0,0;t3,0,0,0;");
        sentTo(x, 0, 2, 5, 1);
        sentTo(x, 0, 3, 0, 3);
        x.cut(2);
        sentTo(x, 0, 3, 5, 2);
        x.cut(3);
        sentTo(x, 0, 1, 9, 4);
        x.hang(1, 4);
        sentTo(x, 0, 1, 5, 3);
        HungFromIce y = sea("n24;l4,5,1;t0,0,0,0;t11,0,0,0;");
        sentTo(y, 0, 1, 0, 11);
        // 4 to 9 sink; 0 to 4 rise, but 4 sinks again
        HungFromIce z = sea("n8;l2,3,1;l3,5,1;l4,9,1;t0,0,0,0;t7,1,0,0;");
        sentTo(z, 0, 1, 4, 1);
        sentTo(z, 1, 0, 0, 8);
    }

    private static void sentByNoneOfItsOwn() {
        of("SENT: a never CATCHES it, others do");
        // round the LEVEL the next TOWN on the way catches, from TOWN 1 past the last PLACE
        HungFromIce x = sea("n24;l4,5,1;t0,0,0,0;t23,0,0,0;t12,0,0,0;");
        sentTo(x, 0, 1, NONE, NONE);
        sentTo(x, 0, 2, 0, 12);
        sentTo(x, 1, 0, 0, 1);
        sentTo(x, 1, 2, NONE, NONE);
        HungFromIce y = sea("n24;l3,5,1;l3,5,1;t0,0,0,0;t0,1,0,0;t1,0,0,0;");
        sentTo(y, 0, 1, 6, 1);
        sentTo(y, 1, 0, 0, 1);
        sentTo(y, 0, 2, NONE, NONE);
        HungFromIce z = sea("n8;l3,3,1;l4,9,1;t0,0,0,0;t2,1,0,0;");
        // 9 stays below, 4 to 8 rise from there and sink again
        sentTo(z, 0, 1, 9, 3);
        // comes back to where it was LET GO each 2 STEPS
        HungFromIce w = sea("n8;l4,3,1;l2,9,1;t0,0,0,0;t1,1,0,0;t7,1,0,0;");
        sentTo(w, 0, 1, 4, 1);
        sentTo(w, 0, 2, NONE, NONE);
        w.cut(1);
        sentTo(w, 0, 2, 9, 3);
    }

    private static void sentFar() {
        of("SENT: behind 60 STEPS or fewer: the longest way that can be is of 53");
        HungFromIce x = sea(LONG_WAY + "t0,0,0,0;t0,7,0,0;");
        sentTo(x, 0, 1, 5, 53);
        x.hang(1, 23);
        sentTo(x, 0, 1, 5, 51);
        x.hang(1, 1);
        sentTo(x, 0, 1, 5, 7);
        sentTo(x, 1, 0, NONE, NONE);
    }

    private static void sentAsTheyHang() {
        of("SENT: a THING LET GO at a now");
        HungFromIce x = sea("n24;l4,5,1;t0,0,0,0;t12,0,0,0;t6,0,0,0;");
        sentTo(x, 0, 1, NONE, NONE);
        x.cut(2);
        sentTo(x, 0, 1, 0, 12);
        x.hang(0, 10);
        sentTo(x, 0, 1, 0, 2);
        x.hang(1, 9);
        sentTo(x, 0, 1, 0, 23);
        for (int i = 0; i < 9; i++) x.letGo(0, i);
        due("7 THINGS", x.count(3), 7);
        sentTo(x, 0, 1, 0, 23);
        due("by a CUT one", x.sent(2, 0, 0), NO);
        due("to a CUT one", x.sent(0, 2, 0), NO);
        due("alike", x.sent(0, 0, 0), BAD);
        due("alike, CUT", x.sent(2, 2, 0), BAD);
    }

    private static void fallTo(HungFromIce x, int t, int by, int steps) {
        due("fall " + t + " 0", x.fall(t, 0), by);
        due("fall " + t + " 1", x.fall(t, 1), steps);
    }

    private static void fallen() {
        of("FALL: the TOWN by which that THING is CAUGHT");
        for (int w = 0; w <= 9; w++) {
            HungFromIce x = sea("n6;l4," + w + ",1;l3,0,1;t0,0,0,0;t1,0,0,0;t1,1,0,0;");
            fallTo(x, 0, w < 9 ? 2 : 1, 1);
        }
        HungFromIce x = sea("n6;l3,9,1;l3,9,1;t0,0,0,0;t0,1,0,0;t5,1,0,0;");
        fallTo(x, 0, NONE, NONE);
        fallTo(x, 1, NONE, NONE);
        HungFromIce y = sea("n6;l4,9,1;t3,0,0,0;");
        fallTo(y, 0, NONE, NONE);
        HungFromIce z = sea("n6;l4,0,1;l4,0,1;l3,0,1;t0,0,0,0;t1,1,0,0;t2,2,0,0;");
        fallTo(z, 0, 1, 1);
        z.cut(1);
        fallTo(z, 0, 2, 2);
        z.hang(2, 3);
        fallTo(z, 0, NONE, NONE);
        for (int i = 0; i < 9; i++) z.letGo(0, 5);
        z.hang(2, 2);
        due("7 THINGS", z.count(3), 7);
        fallTo(z, 0, 2, 2);
        due("of a CUT one", z.fall(1, 0), NO);
        due("nothing is CUT by it", z.town(0, 4), 0);
    }

    private static void fallenFar() {
        of("FALL: behind 60 STEPS or fewer: the longest way that can be is of 30");
        HungFromIce x = sea("n24;" + "l3,0,1;".repeat(7) + "l4,0,1;t0,0,0,0;t23,7,0,0;");
        fallTo(x, 0, 1, 30);
        x.hang(1, 0);
        fallTo(x, 0, 1, 7);
        x.hang(1, 1);
        fallTo(x, 0, 1, 8);
        fallTo(x, 1, NONE, NONE);
    }

    private static void pricesThatClear() {
        of("CLEAR: the least PRICE (0 to 20) at which what they want together is no more than what they have");
        for (int s = 0; s <= 20; s++) {
            for (int d = 0; d <= 20; d++) {
                HungFromIce x = sea("l3,0,1;t0,0," + s + "," + d + ";");
                due("has " + s + ", wants " + d, x.clear(0, 0), Math.max(0, d - s));
            }
        }
        due("six that have nothing", sea("l3,0,1;t0,0,0,20;t1,0,0,20;t2,0,0,20;t3,0,0,20;t4,0,0,20;t5,0,0,20;").clear(0, 0), 20);
        due("six, one that has 5", sea("l3,0,1;t0,0,0,20;t1,0,0,20;t2,0,0,20;t3,0,0,20;t4,0,0,20;t5,0,5,20;").clear(0, 0), 20);
        due("six, one that has 6", sea("l3,0,1;t0,0,0,20;t1,0,0,20;t2,0,0,20;t3,0,0,20;t4,0,0,20;t5,0,6,20;").clear(0, 0), 19);
        due("six that have all", sea("l3,0,1;t0,0,20,20;t1,0,20,20;t2,0,20,20;t3,0,20,20;t4,0,20,20;t5,0,20,20;").clear(0, 0), 0);
        due("a seventh of it", sea("l3,0,1;t0,0,20,0;t1,0,0,20;t2,0,0,20;").clear(0, 0), 10);
        of("CLEAR: wants D less p (0 at least)");
        due("one that wants nothing", sea("l3,0,1;t0,0,0,20;t1,0,0,0;").clear(0, 0), 20);
        due("one that wants 4", sea("l3,0,1;t0,0,2,20;t1,0,0,4;").clear(0, 0), 18);
        due("one that wants nothing and has nothing", sea("l3,0,1;t0,0,0,0;").clear(0, 0), 0);
    }

    private static void pricesOfLevels() {
        of("CLEAR of the TOWNS at LEVELS a to b; none (no TOWN is there)");
        HungFromIce x = sea("l3,0,1;".repeat(8) + "t0,0,0,3;t0,2,0,7;t0,7,0,11;");
        for (int a = 0; a < 8; a++) {
            for (int b = 0; b < 8; b++) {
                int want = b == 7 ? 11 : a <= 2 && b >= 2 ? 7 : a == 0 ? 3 : NONE;
                due("clear " + a + " " + b, x.clear(a, b), b < a ? BAD : want);
            }
            due("clear " + a + " 8", x.clear(a, 8), BAD);
            due("clear -1 " + a, x.clear(-1, a), BAD);
        }
        x.cut(1);
        due("a CUT one is not there", x.clear(1, 6), NONE);
        due("a CUT one is not there", x.clear(0, 6), 3);
        due("one LEVEL", sea("l3,0,1;t0,0,4,9;").clear(0, 0), 5);
        due("no TOWN at all", sea("l3,0,1;").clear(0, 0), NONE);
    }

    private static void gains() {
        of("GAIN of LEVEL a: CLEAR of LEVELS a and below, less CLEAR of those above it, 0 at least");
        HungFromIce x = sea("l3,0,1;".repeat(8) + "t0,1,0,3;t0,4,0,7;t0,6,0,20;");
        int[] want = {BAD, NONE, 17, 17, 17, 13, 13, NONE, BAD};
        for (int a = 0; a <= 8; a++) due("gain " + a, x.gain(a), want[a]);
        due("gain -1", x.gain(-1), BAD);
        due("as much", sea("l3,0,1;l3,0,1;t0,0,0,7;t0,1,0,7;").gain(1), 0);
        due("1 more", sea("l3,0,1;l3,0,1;t0,0,0,6;t0,1,0,7;").gain(1), 1);
        due("1 less", sea("l3,0,1;l3,0,1;t0,0,0,8;t0,1,0,7;").gain(1), 0);
        due("the most", sea("l3,0,1;l3,0,1;t0,0,0,0;t0,1,0,20;").gain(1), 20);
        due("the least", sea("l3,0,1;l3,0,1;t0,0,0,20;t0,1,0,0;").gain(1), 0);
        HungFromIce y = sea("l3,0,1;l3,0,1;t0,0,0,6;t0,1,0,7;");
        y.cut(0);
        due("none above", y.gain(1), NONE);
        y.undo();
        y.cut(1);
        due("none below", y.gain(1), NONE);
        y.cut(0);
        due("none at all", y.gain(1), NONE);
        due("of one LEVEL", sea("l3,0,1;t0,0,0,0;").gain(1), BAD);
    }

    private static void driftedSix() {
        of("DRIFTED (6 at most)");
        HungFromIce x = sea("n24;l3,5,1;l3,5,1;");
        for (int round = 0; round < 3; round++) {
            for (int i = 1; i <= 6; i++) due("drifted", x.drifted(i % 2, 23, 0, 1), i);
            due("a 7th", x.drifted(0, 23, 0, 1), FULL);
            due("a 7th, of another LEVEL", x.drifted(1, 0, 0, 50), FULL);
            due("DRIFTED", x.count(6), 6);
            due("by 1", x.currents(0), 16);
            due("forget", x.forget(), 6);
            due("forget again", x.forget(), 0);
            due("DRIFTED", x.count(6), 0);
            due("all CURRENTS", x.currents(0), 127);
        }
        for (int i = 0; i < 5; i++) x.drifted(0, 23, 0, 1);
        x.drifted(0, 23, 1, 1);
        due("the sixth does not agree", x.currents(0), 0);
    }

    private static void boundsOfDrifted() {
        of("drifted: LEVELS, PLACES there are, 1 to 50 STEPS");
        int[][] good = {{0, 0, 0, 1}, {1, 0, 0, 1}, {0, 3, 0, 1}, {0, 0, 3, 1}, {0, 0, 0, 50}, {1, 3, 3, 50}};
        int[][] bad = {{-1, 0, 0, 1}, {2, 0, 0, 1}, {0, -1, 0, 1}, {0, 4, 0, 1}, {0, 0, -1, 1}, {0, 0, 4, 1}, {0, 0, 0, 0},
            {0, 0, 0, -1}, {0, 0, 0, 51}, {2, 4, 4, 51}, {0, 0, 0, Integer.MAX_VALUE}, {0, 0, 0, Integer.MIN_VALUE}};
        HungFromIce x = sea("n4;l3,5,1;l3,5,1;");
        for (int[] d : bad) due("drifted", x.drifted(d[0], d[1], d[2], d[3]), BAD);
        for (int i = 0; i < good.length; i++) due("drifted", x.drifted(good[i][0], good[i][1], good[i][2], good[i][3]), i + 1);
        for (int[] d : bad) due("BAD ahead of FULL", x.drifted(d[0], d[1], d[2], d[3]), BAD);
        due("DRIFTED", x.count(6), 6);
    }

    private static void currentsBothWays() {
        of("CURRENTS: the C (0 to 6, as bits) by which all that DRIFTED of it would be so");
        for (int n : new int[] {4, 5, 12, 24}) {
            for (int steps : new int[] {1, 2, 24, 49, 50}) {
                for (int x : new int[] {0, n - 1}) {
                    for (int y : new int[] {0, 1, 2, n / 2, n - 2, n - 1}) {
                        int bits = 0;
                        for (int c = 0; c <= 6; c++) if (Math.floorMod(x + steps * (c - 3) - y, n) == 0) bits |= 1 << c;
                        HungFromIce sea = sea("n" + n + ";l3,5,1;");
                        sea.drifted(0, x, y, steps);
                        due("currents by " + x + " " + y + " " + steps + " of " + n, sea.currents(0), bits);
                    }
                }
            }
        }
        int[] ways = {21, 22, 23, 0, 1, 2, 3};
        for (int c = 0; c <= 6; c++) {
            HungFromIce x = sea("n24;l3,5,1;");
            x.drifted(0, 0, ways[c], 1);
            due("one STEP to " + ways[c], x.currents(0), 1 << c);
        }
        HungFromIce x = sea("n24;l3,5,1;");
        x.drifted(0, 0, 4, 1);
        due("4 on: none", x.currents(0), 0);
    }

    private static void currentsOfALevel() {
        of("CURRENTS of a LEVEL: all that DRIFTED of it");
        HungFromIce x = sea("n24;" + "l3,5,1;".repeat(8));
        x.drifted(0, 0, 3, 1);
        x.drifted(7, 0, 21, 1);
        x.drifted(3, 0, 0, 24);
        x.drifted(3, 5, 7, 2);
        int[] want = {64, 127, 127, 16, 127, 127, 127, 1};
        for (int l = 0; l < 8; l++) due("currents " + l, x.currents(l), want[l]);
        due("no LEVEL 8", x.currents(8), BAD);
        due("no LEVEL -1", x.currents(-1), BAD);
        x.steps(9);
        due("STEPS do not bear on it", x.currents(0), 64);
    }

    private static long ways(int n, int k) {
        return k == 0 ? 1 : ways(n, k - 1) * (n - k + 1) / k;
    }

    private static long power(int a, int n) {
        long p = 1;
        for (int i = 0; i < n; i++) p *= a;
        return p;
    }

    /** WARMTH w is k or more behind n days, if it leaked on no more than w - k of them; 0 or more it is always. */
    private static void leakDue(HungFromIce sea, int l, int w, int k, int n, int x) {
        long above = 0, below = power(10, n);
        for (int days = 0; days <= n; days++) {
            if (k == 0 || w - days >= k) above += ways(n, days) * power(x, days) * power(10 - x, n - days);
        }
        long common = commonDivisor(above, below);
        String call = "leak of " + w + " to " + k + " in " + n + " by " + x;
        due(call + ", above", sea.leak(l, k, n, x, 0), above / common);
        due(call + ", below", sea.leak(l, k, n, x, 1), below / common);
    }

    private static void leaks() {
        of("LEAK: 1 less (0 at least) by the chance of x of ten: the chance that it is k or more, in lowest terms");
        for (int n = 0; n <= 9; n++) {
            for (int x = 0; x <= 10; x++) {
                for (int w = 0; w <= 9; w++) {
                    HungFromIce sea = sea("l3,5,1;l3," + w + ",1;");
                    for (int k = 0; k <= 9; k++) leakDue(sea, 1, w, k, n, x);
                }
            }
        }
        HungFromIce sea = sea("l3,9,1;");
        sea.steps(60);
        leakDue(sea, 0, 9, 5, 9, 7);
    }

    private static void boundsOfLeak() {
        of("leak: k (0 to 9), n (0 to 9), x (0 to 10), part (0, 1)");
        HungFromIce x = sea("l3,9,1;l3,9,1;");
        int[][] good = {{0, 0, 0, 0, 0, 1}, {1, 9, 0, 0, 1, 1}, {0, 9, 9, 0, 0, 1}, {0, 9, 9, 10, 0, 0}, {1, 0, 9, 10, 1, 1}};
        for (int[] g : good) due("leak", x.leak(g[0], g[1], g[2], g[3], g[4]), g[5]);
        int[] least = {0, 0, 0, 0, 0}, most = {1, 9, 9, 10, 1};
        for (int i = 0; i < 5; i++) {
            for (int number : new int[] {least[i] - 1, most[i] + 1, Integer.MIN_VALUE, Integer.MAX_VALUE}) {
                int[] a = least.clone();
                a[i] = number;
                due("leak with number " + i + " " + number, x.leak(a[0], a[1], a[2], a[3], a[4]), BAD);
                int[] b = most.clone();
                b[i] = number;
                due("leak with number " + i + " " + number, x.leak(b[0], b[1], b[2], b[3], b[4]), BAD);
            }
        }
    }

    private static int draw(int z, int k) {
        long x = 7919L * z + 6151L * k + 1;
        return (int) (x * x % 65521);
    }

    private static void yearsOfOneLevel() {
        of("A YEAR by z (0 to 9999) of n (1 to 60) THINGS: PLACE (DRAW by 8, cut) modulo N");
        for (int places : new int[] {4, 12, 24}) {
            HungFromIce x = sea("n" + places + ";l3,5,1;t0,0,0,0;t" + (places - 1) + ",0,0,0;");
            for (int z : new int[] {0, 1, 2, 4999, 9998, 9999}) {
                for (int n : new int[] {1, 2, 59, 60}) {
                    int first = 0, last = 0;
                    for (int k = 0; k < n; k++) {
                        int at = draw(z, k) / 8 % places;
                        if (at == 0) first++;
                        if (at == places - 1) last++;
                    }
                    due("year " + z + " " + n + " 0", x.year(z, n, 0), first);
                    due("year " + z + " " + n + " 1", x.year(z, n, 1), last);
                    due("year " + z + " " + n + " -1", x.year(z, n, -1), first + last);
                }
            }
        }
    }

    private static void yearsOfLevels() {
        of("A YEAR: at LEVEL DRAW modulo how many there are, of WEIGHT (DRAW by 256, cut) modulo 10");
        for (int last = 1; last <= 7; last++) {
            for (int w = 0; w <= 9; w++) {
                // a TOWN at the last LEVEL and one at the next above it, where what is heavier than w sinks
                String levels = "n4;" + "l3,9,1;".repeat(last - 1) + "l3," + w + ",1;l3,0,1;";
                HungFromIce x = sea(levels + "t2," + (last - 1) + ",0,0;t2," + last + ",0,0;");
                int stay = 0, sink = 0;
                for (int k = 0; k < 60; k++) {
                    int draw = draw(77, k), l = draw % (last + 1), weight = draw / 256 % 10;
                    if (draw / 8 % 4 != 2) continue;
                    if (l == last || l == last - 1 && weight > w) sink++;
                    if (l == last - 1 && (weight == w || last == 1 && weight < w)) stay++;
                }
                due("year of " + last + " by " + w + ": stay", x.year(77, 60, 0), stay);
                due("year of " + last + " by " + w + ": sink", x.year(77, 60, 1), sink);
            }
        }
    }

    private static void yearsLate() {
        of("A YEAR: CAUGHT behind 60 STEPS or fewer: the longest way that can be is of 53");
        int found = 0;
        for (int z = 0; z <= 9999; z++) {
            int draw = draw(z, 0);
            if (draw % 8 != 0 || draw / 256 % 10 != 5) continue;
            found++;
            int start = draw / 8 % 24;
            due("behind 53", sea(LONG_WAY + "t" + start + ",7,0,0;").year(z, 1, 0), 1);
            if (found == 20) return;
        }
    }

    private static void boundsOfYear() {
        of("year: z (0 to 9999), n (1 to 60), t (-1, the TOWNS)");
        HungFromIce x = new HungFromIce();
        int[][] bad = {{-1, 1, 0}, {10000, 1, 0}, {0, 0, 0}, {0, -1, 0}, {0, 61, 0}, {0, 1, 2}, {0, 1, -2}, {-1, 0, -2},
            {Integer.MIN_VALUE, 1, 0}, {Integer.MAX_VALUE, 1, 0}, {0, Integer.MAX_VALUE, 0}, {0, Integer.MIN_VALUE, 0},
            {0, 1, Integer.MAX_VALUE}, {0, 1, Integer.MIN_VALUE}};
        for (int[] b : bad) due("year " + b[0] + " " + b[1] + " " + b[2], x.year(b[0], b[1], b[2]), BAD);
        int all = 0;
        for (int t = -1; t < 2; t++) {
            due("the least", x.year(0, 1, t) >= 0 ? 1 : 0, 1);
            int caught = x.year(9999, 60, t);
            if (t >= 0) all += caught;
        }
        due("by any: by one or the other", x.year(9999, 60, -1), all);
        x.cut(1);
        due("a CUT one", x.year(0, 1, 1), NO);
        due("BAD ahead of NO", x.year(10000, 1, 1), BAD);
        due("BAD ahead of NO", x.year(0, 61, 1), BAD);
        due("a CUT one catches none", x.year(9999, 60, -1), x.year(9999, 60, 0));
        HungFromIce y = sea("n4;l3,5,1;t0,0,0,0;t1,0,0,0;t2,0,0,0;t3,0,0,0;");
        due("all of one", y.year(0, 1, -1), 1);
        due("all of 60", y.year(9999, 60, -1), 60);
        due("no TOWN at all", sea("l3,5,1;").year(9999, 60, -1), 0);
        due("nor TOWN 0", sea("l3,5,1;").year(9999, 60, 0), BAD);
    }
}
