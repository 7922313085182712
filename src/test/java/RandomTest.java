import java.math.BigInteger;
import java.util.ArrayList;
import java.util.Arrays;
import java.util.List;
import java.util.PriorityQueue;
import java.util.regex.Matcher;
import java.util.regex.Pattern;

/** Runs of drawn calls (always the same ones), each answer compared with that of a slow model written for itself. */
public final class RandomTest {
    private static final int BAD = -1, NO = -2, FULL = -3, NONE = -4;
    private static long seed = 20261119;
    private static int wrong = 0;

    private static int draw(int below) {
        seed = seed * 6364136223846793005L + 1442695040888963407L;
        return (int) ((seed >>> 33) % below);
    }

    private static int draw(int low, int high) {
        return low + draw(high - low + 1);
    }

    /** Mostly a good number, now and then one just outside or far off. */
    private static int about(int low, int high) {
        int way = draw(30);
        if (way == 0) return low - 1;
        if (way == 1) return high + 1;
        if (way == 2 && draw(4) == 0) return draw(2) == 0 ? Integer.MIN_VALUE : Integer.MAX_VALUE;
        return high < low ? low : draw(low, high);
    }

    public static void main(String[] args) {
        for (int run = 0; run < 1000 && wrong < 20; run++) oneRun(run);
        if (wrong > 0) System.exit(1);
        System.out.println("all drawn calls are answered as by the model");
    }

    private static void oneRun(int run) {
        HungFromIce x = new HungFromIce();
        Model m = new Model();
        int style = draw(4);
        StringBuilder log = new StringBuilder();
        int calls = 0;
        while (calls < 512) {
            if (calls == 0 && style > 0 || calls < 300 && draw(150) == 0) {
                String text = drawnText(style);
                calls += 1 + text.length() + 2;
                if (calls > 512) return;
                if (!same(run, log, "wipe", x.wipe(), m.wipe())) return;
                for (char c : text.toCharArray()) if (!same(run, log, "write " + c, x.write(c), m.write(c))) return;
                if (!same(run, log, "fault", x.fault(), m.fault())) return;
                if (!same(run, log, "lay", x.lay(), m.lay())) return;
            } else {
                calls++;
                if (!oneCall(run, log, x, m)) return;
            }
        }
    }

    private static boolean same(int run, StringBuilder log, String call, long got, long want) {
        log.append(call).append(" -> ").append(want).append('\n');
        if (got == want) return true;
        wrong++;
        System.out.println("run " + run + ": " + call + " answered " + got + ", due is " + want + ", after\n" + log);
        return false;
    }

    private static boolean oneCall(int run, StringBuilder log, HungFromIce x, Model m) {
        int lMax = m.levels.size() - 1, xMax = m.n - 1, tMax = m.towns.size() - 1, gMax = m.s.things.size() - 1;
        int a, b, c, d, e;
        switch (draw(36)) {
            case 0: a = about(32, 126); return same(run, log, "write " + a, x.write(a), m.write(a));
            case 1: return same(run, log, "fault", x.fault(), m.fault());
            case 2: if (draw(20) > 0) return true; return same(run, log, "lay", x.lay(), m.lay());
            case 3: a = about(0, lMax); b = about(0, 2); return same(run, log, "level " + a + " " + b, x.level(a, b), m.level(a, b));
            case 4: a = about(0, tMax); b = about(0, 4); return same(run, log, "town " + a + " " + b, x.town(a, b), m.town(a, b));
            case 5: case 6: a = about(0, gMax); b = about(0, 3); return same(run, log, "thing " + a + " " + b, x.thing(a, b), m.thing(a, b));
            case 7: case 8: a = draw(3) > 0 ? about(1, 4) : about(1, 60); return same(run, log, "steps " + a, x.steps(a), m.steps(a));
            case 9: a = about(0, tMax); b = about(0, 9); return same(run, log, "letGo " + a + " " + b, x.letGo(a, b), m.letGo(a, b));
            case 10: case 11: a = about(0, tMax); b = about(0, xMax); return same(run, log, "hang " + a + " " + b, x.hang(a, b), m.hang(a, b));
            case 12: if (draw(3) > 0) return true; a = about(0, tMax); return same(run, log, "cut " + a, x.cut(a), m.cut(a));
            case 13: case 14: return same(run, log, "undo", x.undo(), m.undo());
            case 15: a = about(0, 60); b = about(0, gMax); c = about(0, 2); return same(run, log, "behind " + a + " " + b + " " + c, x.behind(a, b, c), m.behind(a, b, c));
            case 16: case 17: a = about(0, gMax); b = about(0, gMax); return same(run, log, "meet " + a + " " + b, x.meet(a, b), m.meet(a, b));
            case 18: a = about(0, gMax); return same(run, log, "round " + a, x.round(a), m.round(a));
            case 19: a = about(0, lMax); b = about(0, xMax); c = about(0, lMax); d = about(0, xMax);
                return same(run, log, "time " + a + " " + b + " " + c + " " + d, x.time(a, b, c, d), m.time(a, b, c, d));
            case 20: a = about(0, tMax); b = draw(2) == 0 ? about(0, 99) : about(0, 20); return same(run, log, "hears " + a + " " + b, x.hears(a, b), m.hears(a, b));
            case 21: a = about(0, tMax); return same(run, log, "shadow " + a, x.shadow(a), m.shadow(a));
            case 22: a = about(0, tMax); b = draw(3) == 0 ? about(0, 99) : about(0, 9); return same(run, log, "heard " + a + " " + b, x.heard(a, b), m.heard(a, b));
            case 23: if (draw(3) > 0) return true; return same(run, log, "hush", x.hush(), m.hush());
            case 24: a = about(0, 1); return same(run, log, "whence " + a, x.whence(a), m.whence(a));
            case 25: case 26: a = draw(4) == 0 ? about(0, 99) : about(0, 15); b = about(0, 2); return same(run, log, "moved " + a + " " + b, x.moved(a, b), m.moved(a, b));
            case 27: a = about(0, tMax); b = about(0, tMax); c = about(0, 1); return same(run, log, "sent " + a + " " + b + " " + c, x.sent(a, b, c), m.sent(a, b, c));
            case 28: a = about(0, tMax); b = about(0, 1); return same(run, log, "fall " + a + " " + b, x.fall(a, b), m.fall(a, b));
            case 29: a = about(0, lMax); b = about(0, lMax); return same(run, log, "clear " + a + " " + b, x.clear(a, b), m.clear(a, b));
            case 30: a = about(0, lMax); return same(run, log, "gain " + a, x.gain(a), m.gain(a));
            case 31: a = about(0, lMax); b = about(0, xMax); c = about(0, xMax); d = draw(2) == 0 ? about(1, 50) : about(1, 3);
                return same(run, log, "drifted " + a + " " + b + " " + c + " " + d, x.drifted(a, b, c, d), m.drifted(a, b, c, d));
            case 32: if (draw(4) == 0) return same(run, log, "forget", x.forget(), m.forget());
                a = about(0, lMax); return same(run, log, "currents " + a, x.currents(a), m.currents(a));
            case 33: a = about(0, lMax); b = about(0, 9); c = about(0, 9); d = about(0, 10); e = about(0, 1);
                return same(run, log, "leak " + a + " " + b + " " + c + " " + d + " " + e, x.leak(a, b, c, d, e), m.leak(a, b, c, d, e));
            case 34: a = about(0, 9999); b = about(1, 60); c = about(-1, tMax); return same(run, log, "year " + a + " " + b + " " + c, x.year(a, b, c), m.year(a, b, c));
            default:
                if (draw(3) == 0) return same(run, log, "keep", x.keep(), m.keep());
                if (draw(3) == 0) return same(run, log, "back", x.back(), m.back());
                a = about(0, 9); return same(run, log, "count " + a, x.count(a), m.count(a));
        }
    }

    /** A TEXT, most of them such that can be laid. */
    private static String drawnText(int style) {
        int n = draw(3) == 0 ? 24 : draw(4, 12);
        int levels = style == 3 ? draw(1, 2) : draw(1, 8);
        StringBuilder s = new StringBuilder();
        if (draw(4) > 0) s.append('n').append(n).append(';'); else n = 12;
        for (int l = 0; l < levels; l++) {
            s.append('l').append(draw(7)).append(',').append(draw(10)).append(',').append(style == 2 ? draw(1, 2) : draw(1, 9)).append(';');
        }
        int towns = draw(7), markets = draw(4) == 0 ? 8 : draw(5), things = draw(6);
        for (int t = 0; t < towns; t++) {
            s.append('t').append(draw(n)).append(',').append(draw(levels)).append(',').append(draw(21)).append(',').append(draw(21)).append(';');
        }
        for (int i = 0; i < markets; i++) s.append('m').append(draw(levels)).append(',').append(draw(n)).append(';');
        for (int g = 0; g < things; g++) s.append('g').append(draw(levels)).append(',').append(draw(n)).append(',').append(draw(10)).append(';');
        if (draw(5) == 0) spoil(s);
        if (s.length() > 200) s.setLength(200);
        return s.toString();
    }

    private static void spoil(StringBuilder s) {
        String letters = "nltmg0123456789,; xN";
        for (int i = draw(1, 2); i > 0; i--) {
            int at = draw(s.length());
            char c = letters.charAt(draw(letters.length()));
            switch (draw(3)) {
                case 0: s.setCharAt(at, c); break;
                case 1: s.insert(at, c); break;
                default: if (s.length() > 1) s.deleteCharAt(at);
            }
        }
    }

    /** The document once more, by other means: regular expressions, lists, copies, plain search. */
    private static final class Model {
        String text = "";
        int n = 12;
        List<int[]> levels = new ArrayList<>();
        List<int[]> towns = new ArrayList<>();
        List<int[]> markets = new ArrayList<>();
        Seas s = new Seas();
        List<int[]> heard = new ArrayList<>();
        List<int[]> drifted = new ArrayList<>();
        List<Seas> undone = new ArrayList<>();
        List<Seas> kept = new ArrayList<>();

        static final class Seas {
            int gone = 0;
            int[] place = new int[6];
            boolean[] cut = new boolean[6];
            List<int[]> things = new ArrayList<>();

            Seas copy() {
                Seas c = new Seas();
                c.gone = gone;
                c.place = place.clone();
                c.cut = cut.clone();
                for (int[] g : things) c.things.add(g.clone());
                return c;
            }
        }

        Model() {
            text = "l4,1,2;l2,3,1;l3,6,1;t0,1,3,5;t6,2,4,2;g0,3,5;";
            lay();
            text = "";
        }

        static boolean in(int v, int low, int high) {
            return low <= v && v <= high;
        }

        int write(int c) {
            if (!in(c, 32, 126)) return BAD;
            if (text.length() == 200) return FULL;
            text += (char) c;
            return text.length();
        }

        int wipe() {
            int was = text.length();
            text = "";
            return was;
        }

        static final Pattern ITEM = Pattern.compile("([nltmg])(\\d{1,2}(?:,\\d{1,2})*);");

        /** The ITEMS, the letter first; the place of the FAULT is put into at[0]. */
        List<int[]> items(int[] at) {
            List<int[]> all = new ArrayList<>();
            int round = 12, from = 0;
            int[] most = new int[128];
            Arrays.fill(most, 1000);
            most['l'] = 8; most['t'] = 6; most['m'] = 8; most['g'] = 5;
            at[0] = NONE;
            Matcher item = ITEM.matcher(text);
            while (from < text.length()) {
                at[0] = from;
                item.region(from, text.length());
                if (!item.lookingAt()) return all;
                char c = item.group(1).charAt(0);
                String[] numbers = item.group(2).split(",");
                int[] row = new int[numbers.length + 1];
                row[0] = c;
                for (int i = 0; i < numbers.length; i++) row[i + 1] = Integer.parseInt(numbers[i]);
                int[][] bounds;
                switch (c) {
                    case 'n': bounds = new int[][] {{4, 24}}; break;
                    case 'l': bounds = new int[][] {{0, 6}, {0, 9}, {1, 9}}; break;
                    case 't': bounds = new int[][] {{0, round - 1}, {0, 7}, {0, 20}, {0, 20}}; break;
                    case 'm': bounds = new int[][] {{0, 7}, {0, round - 1}}; break;
                    default: bounds = new int[][] {{0, 7}, {0, round - 1}, {0, 9}};
                }
                if (bounds.length != numbers.length) return all;
                for (int i = 0; i < bounds.length; i++) if (!in(row[i + 1], bounds[i][0], bounds[i][1])) return all;
                if (c == 'n') {
                    for (int[] r : all) if (r[0] != 'n') return all;
                    round = row[1];
                }
                if (--most[c] < 0) return all;
                all.add(row);
                from = item.end();
            }
            at[0] = NONE;
            return all;
        }

        int fault() {
            int[] at = new int[1];
            items(at);
            return at[0];
        }

        int lay() {
            int[] at = new int[1];
            List<int[]> all = items(at);
            if (at[0] != NONE) return NO;
            int round = 12, count = 0;
            for (int[] i : all) if (i[0] == 'l') count++;
            if (count == 0) return NO;
            List<String> shutOut = new ArrayList<>(), hung = new ArrayList<>();
            for (int[] i : all) {
                if (i[0] == 'n') round = i[1];
                if (i[0] == 't' && i[2] >= count || (i[0] == 'm' || i[0] == 'g') && i[1] >= count) return NO;
                if (i[0] == 'm') shutOut.add(i[1] + "," + i[2]);
            }
            for (int[] i : all) {
                if (i[0] != 't') continue;
                String where = i[2] + "," + i[1];
                if (hung.contains(where) || shutOut.contains(where)) return NO;
                hung.add(where);
            }
            n = round;
            levels.clear(); towns.clear(); markets.clear(); heard.clear(); drifted.clear(); undone.clear(); kept.clear();
            s = new Seas();
            for (int[] i : all) {
                if (i[0] == 'l') levels.add(new int[] {i[1], i[2], i[3]});
                if (i[0] == 't') {
                    s.place[towns.size()] = i[1];
                    towns.add(new int[] {i[2], i[3], i[4]});
                }
                if (i[0] == 'm') markets.add(new int[] {i[1], i[2]});
                if (i[0] == 'g') s.things.add(new int[] {i[1], i[2], i[3], NONE});
            }
            return count;
        }

        boolean isL(int l) { return in(l, 0, levels.size() - 1); }
        boolean isX(int x) { return in(x, 0, n - 1); }
        boolean isT(int t) { return in(t, 0, towns.size() - 1); }
        boolean isG(int g) { return in(g, 0, s.things.size() - 1); }

        int level(int l, int what) {
            return isL(l) && in(what, 0, 2) ? levels.get(l)[what] : BAD;
        }

        int town(int t, int what) {
            if (!isT(t) || !in(what, 0, 4)) return BAD;
            return new int[] {towns.get(t)[0], s.place[t], towns.get(t)[1], towns.get(t)[2], s.cut[t] ? 1 : 0}[what];
        }

        int thing(int g, int what) {
            return isG(g) && in(what, 0, 3) ? s.things.get(g)[what] : BAD;
        }

        int townAt(int l, int x, int but) {
            for (int t = 0; t < towns.size(); t++) {
                if (t != but && !s.cut[t] && towns.get(t)[0] == l && s.place[t] == x) return t;
            }
            return NONE;
        }

        boolean isMarket(int l, int x) {
            for (int[] m : markets) if (m[0] == l && m[1] == x) return true;
            return false;
        }

        int[] flown(int[] g) {
            int[] level = levels.get(g[0]);
            int x = ((g[1] + level[0] - 3) % n + n) % n;
            int l = g[0];
            if (g[2] > level[1]) l = Math.min(l + 1, levels.size() - 1);
            if (g[2] < level[1]) l = Math.max(l - 1, 0);
            return new int[] {l, x, g[2], g[3]};
        }

        int[] stepped(int[] g, int but) {
            if (g[3] != NONE) return g;
            int[] f = flown(g);
            f[3] = townAt(f[0], f[1], but);
            return f;
        }

        void done() {
            undone.add(s.copy());
            if (undone.size() > 8) undone.remove(0);
        }

        int steps(int k) {
            if (!in(k, 1, 60)) return BAD;
            if (s.gone + k > 9999) return NO;
            done();
            for (int i = 0; i < k; i++) {
                for (int g = 0; g < s.things.size(); g++) s.things.set(g, stepped(s.things.get(g), -1));
            }
            return s.gone += k;
        }

        int letGo(int t, int g) {
            if (!isT(t) || !in(g, 0, 9)) return BAD;
            if (s.cut[t]) return NO;
            if (s.things.size() == 7) return FULL;
            done();
            s.things.add(new int[] {towns.get(t)[0], s.place[t], g, NONE});
            return s.things.size() - 1;
        }

        int hang(int t, int x) {
            if (!isT(t) || !isX(x)) return BAD;
            int l = towns.get(t)[0];
            if (s.cut[t] || townAt(l, x, -1) != NONE || isMarket(l, x)) return NO;
            done();
            int was = s.place[t];
            s.place[t] = x;
            for (int[] g : s.things) if (g[3] == t) g[1] = x;
            return was;
        }

        int cut(int t) {
            if (!isT(t)) return BAD;
            if (s.cut[t]) return NO;
            if (s.things.size() == 7) return FULL;
            done();
            s.cut[t] = true;
            for (int[] g : s.things) if (g[3] == t) g[3] = NONE;
            s.things.add(new int[] {towns.get(t)[0], s.place[t], 9, NONE});
            return s.things.size() - 1;
        }

        int undo() {
            if (undone.isEmpty()) return NO;
            s = undone.remove(undone.size() - 1);
            return undone.size();
        }

        int[] behind(int k, int[] g) {
            for (int i = 0; i < k; i++) g = stepped(g, -1);
            return g;
        }

        int behind(int k, int g, int what) {
            if (!in(k, 0, 60) || !isG(g) || !in(what, 0, 2)) return BAD;
            int[] b = behind(k, s.things.get(g));
            return what < 2 ? b[what] : b[3];
        }

        int meet(int g, int h) {
            if (!isG(g) || !isG(h) || g == h) return BAD;
            for (int k = 0; k <= 60; k++) {
                int[] a = behind(k, s.things.get(g)), b = behind(k, s.things.get(h));
                if (a[3] == NONE && b[3] == NONE && a[0] == b[0] && a[1] == b[1]) return k;
            }
            return NONE;
        }

        int round(int g) {
            if (!isG(g)) return BAD;
            List<int[]> way = new ArrayList<>();
            way.add(s.things.get(g));
            for (int k = 0; k < 400; k++) way.add(flown(way.get(k)));
            for (int k = 1; k <= 200; k++) {
                if (way.get(200)[0] == way.get(200 + k)[0] && way.get(200)[1] == way.get(200 + k)[1]) return k;
            }
            return NONE;
        }

        static final int NEVER = 99999;

        /** Beats from one LEVEL and PLACE to all, soonest first. */
        int[][] beats(int l, int x) {
            int[][] best = new int[levels.size()][n];
            for (int[] row : best) Arrays.fill(row, NEVER);
            if (isMarket(l, x)) return best;
            PriorityQueue<int[]> next = new PriorityQueue<>((p, q) -> p[0] - q[0]);
            next.add(new int[] {0, l, x});
            while (!next.isEmpty()) {
                int[] p = next.remove();
                if (!isL(p[1]) || isMarket(p[1], p[2]) || best[p[1]][p[2]] <= p[0]) continue;
                best[p[1]][p[2]] = p[0];
                next.add(new int[] {p[0] + 1, p[1], (p[2] + 1) % n});
                next.add(new int[] {p[0] + 1, p[1], (p[2] + n - 1) % n});
                next.add(new int[] {p[0] + levels.get(p[1])[2], p[1] + 1, p[2]});
                if (p[1] > 0) next.add(new int[] {p[0] + levels.get(p[1] - 1)[2], p[1] - 1, p[2]});
            }
            return best;
        }

        int[][] beatsOf(int t) {
            return beats(towns.get(t)[0], s.place[t]);
        }

        int time(int l, int x, int k, int y) {
            if (!isL(l) || !isX(x) || !isL(k) || !isX(y)) return BAD;
            int b = beats(l, x)[k][y];
            return b == NEVER ? NONE : b;
        }

        int hears(int t, int b) {
            if (!isT(t) || !in(b, 0, 99)) return BAD;
            if (s.cut[t]) return NO;
            int bits = 0;
            int[][] to = beatsOf(t);
            for (int u = 0; u < towns.size(); u++) {
                if (u != t && !s.cut[u] && to[towns.get(u)[0]][s.place[u]] <= b) bits += 1 << u;
            }
            return bits;
        }

        int shadow(int t) {
            if (!isT(t)) return BAD;
            if (s.cut[t]) return NO;
            int dark = 0;
            int[][] to = beatsOf(t);
            for (int l = 0; l < levels.size(); l++) {
                for (int x = 0; x < n; x++) if (!isMarket(l, x) && to[l][x] == NEVER) dark++;
            }
            return dark;
        }

        int heard(int t, int beat) {
            if (!isT(t) || !in(beat, 0, 99)) return BAD;
            if (s.cut[t]) return NO;
            if (heard.size() == 6) return FULL;
            heard.add(new int[] {t, beat});
            return heard.size();
        }

        int hush() {
            int was = heard.size();
            heard.clear();
            return was;
        }

        int whence(int what) {
            if (!in(what, 0, 1)) return BAD;
            int count = 0, lowest = NONE;
            for (int l = 0; l < levels.size(); l++) {
                for (int x = 0; x < n; x++) {
                    if (isMarket(l, x)) continue;
                    int[][] to = beats(l, x);
                    boolean fits = heard.isEmpty();
                    for (int begun = -3000; begun <= 99 && !fits; begun++) {
                        fits = true;
                        for (int[] h : heard) {
                            int b = to[towns.get(h[0])[0]][s.place[h[0]]];
                            if (b == NEVER || begun + b != h[1]) fits = false;
                        }
                    }
                    if (!fits) continue;
                    if (count == 0) lowest = 24 * l + x;
                    count++;
                }
            }
            return what == 0 ? count : lowest;
        }

        boolean allHear(int b) {
            for (int t = 0; t < towns.size(); t++) {
                if (s.cut[t]) continue;
                for (int u = 0; u < towns.size(); u++) {
                    if (u != t && !s.cut[u] && !near(t, u, b)) return false;
                }
            }
            return true;
        }

        /** Found anew for each sea, as all ways to hang two TOWNS ask it often. */
        int[][][] table = null;

        boolean near(int t, int u, int b) {
            if (table == null) {
                table = new int[levels.size() * 24][][];
                for (int l = 0; l < levels.size(); l++) for (int x = 0; x < n; x++) table[24 * l + x] = beats(l, x);
            }
            return table[24 * towns.get(t)[0] + s.place[t]][towns.get(u)[0]][s.place[u]] <= b;
        }

        boolean tryHang(int t, int x) {
            int l = towns.get(t)[0];
            if (s.cut[t] || townAt(l, x, -1) != NONE || isMarket(l, x)) return false;
            s.place[t] = x;
            return true;
        }

        int[] moves(int b) {
            int[] was = s.place.clone();
            if (allHear(b)) return new int[] {0, NONE, NONE};
            for (int t = 0; t < towns.size(); t++) {
                for (int x = 0; x < n; x++) {
                    boolean found = tryHang(t, x) && allHear(b);
                    s.place = was.clone();
                    if (found) return new int[] {1, 24 * t + x, NONE};
                }
            }
            for (int t = 0; t < towns.size(); t++) {
                for (int x = 0; x < n; x++) {
                    for (int u = t + 1; u < towns.size(); u++) {
                        for (int y = 0; y < n; y++) {
                            boolean found = tryHang(t, x) && tryHang(u, y) && allHear(b);
                            s.place = was.clone();
                            if (found) return new int[] {2, 24 * t + x, 24 * u + y};
                        }
                    }
                }
            }
            return new int[] {NONE, NONE, NONE};
        }

        int moved(int b, int what) {
            if (!in(b, 0, 99) || !in(what, 0, 2)) return BAD;
            table = null;
            return moves(b)[what];
        }

        /** The TOWN that catches, and behind how many STEPS. */
        int[] caught(int l, int x, int g, int but) {
            int[] thing = {l, x, g, NONE};
            for (int k = 1; k <= 60; k++) {
                thing = stepped(thing, but);
                if (thing[3] != NONE) return new int[] {thing[3], k};
            }
            return new int[] {NONE, NONE};
        }

        int sent(int a, int b, int what) {
            if (!isT(a) || !isT(b) || a == b || !in(what, 0, 1)) return BAD;
            if (s.cut[a] || s.cut[b]) return NO;
            int[] best = {NONE, NONE};
            for (int w = 9; w >= 0; w--) {
                int[] c = caught(towns.get(a)[0], s.place[a], w, a);
                if (c[0] == b && (best[0] == NONE || c[1] <= best[1])) best = new int[] {w, c[1]};
            }
            return best[what];
        }

        int fall(int t, int what) {
            if (!isT(t) || !in(what, 0, 1)) return BAD;
            if (s.cut[t]) return NO;
            return caught(towns.get(t)[0], s.place[t], 9, t)[what];
        }

        int clear(int a, int b) {
            if (!isL(a) || !isL(b) || b < a) return BAD;
            int has = 0, there = 0;
            for (int t = 0; t < towns.size(); t++) {
                if (!s.cut[t] && in(towns.get(t)[0], a, b)) {
                    has += towns.get(t)[1];
                    there++;
                }
            }
            if (there == 0) return NONE;
            for (int p = 0; ; p++) {
                int want = 0;
                for (int t = 0; t < towns.size(); t++) {
                    if (!s.cut[t] && in(towns.get(t)[0], a, b) && towns.get(t)[2] > p) want += towns.get(t)[2] - p;
                }
                if (want <= has) return p;
            }
        }

        int gain(int a) {
            if (!isL(a) || a == 0) return BAD;
            int deep = clear(a, levels.size() - 1), high = clear(0, a - 1);
            if (deep == NONE || high == NONE) return NONE;
            return deep > high ? deep - high : 0;
        }

        int drifted(int l, int x, int y, int k) {
            if (!isL(l) || !isX(x) || !isX(y) || !in(k, 1, 50)) return BAD;
            if (drifted.size() == 6) return FULL;
            drifted.add(new int[] {l, x, y, k});
            return drifted.size();
        }

        int forget() {
            int was = drifted.size();
            drifted.clear();
            return was;
        }

        int currents(int l) {
            if (!isL(l)) return BAD;
            int bits = 0;
            for (int c = -3; c <= 3; c++) {
                boolean fits = true;
                for (int[] d : drifted) {
                    if (d[0] != l) continue;
                    int x = d[1];
                    for (int k = 0; k < d[3]; k++) x = (x + c + n) % n;
                    if (x != d[2]) fits = false;
                }
                if (fits) bits += 1 << c + 3;
            }
            return bits;
        }

        long leak(int l, int k, int days, int x, int part) {
            if (!isL(l) || !in(k, 0, 9) || !in(days, 0, 9) || !in(x, 0, 10) || !in(part, 0, 1)) return BAD;
            BigInteger above = BigInteger.ZERO, below = BigInteger.TEN.pow(days);
            for (int run = 0; run < 1 << days; run++) {
                int warm = levels.get(l)[1];
                BigInteger ways = BigInteger.ONE;
                for (int day = 0; day < days; day++) {
                    boolean less = (run >> day & 1) == 1;
                    if (less && warm > 0) warm--;
                    ways = ways.multiply(BigInteger.valueOf(less ? x : 10 - x));
                }
                if (warm >= k) above = above.add(ways);
            }
            BigInteger common = above.gcd(below);
            return (part == 0 ? above : below).divide(common).longValueExact();
        }

        int year(int z, int many, int t) {
            if (!in(z, 0, 9999) || !in(many, 1, 60) || t != -1 && !isT(t)) return BAD;
            if (t != -1 && s.cut[t]) return NO;
            int count = 0;
            for (int k = 0; k < many; k++) {
                BigInteger x = BigInteger.valueOf(7919L * z + 6151L * k + 1);
                int drawn = x.multiply(x).mod(BigInteger.valueOf(65521)).intValue();
                int by = caught(drawn % levels.size(), drawn / 8 % n, drawn / 256 % 10, -1)[0];
                if (by != NONE && (t == -1 || by == t)) count++;
            }
            return count;
        }

        int keep() {
            if (kept.size() == 2) return FULL;
            kept.add(s.copy());
            return kept.size();
        }

        int back() {
            if (kept.isEmpty()) return NO;
            s = kept.remove(kept.size() - 1);
            undone.clear();
            return kept.size();
        }

        int count(int what) {
            if (!in(what, 0, 9)) return BAD;
            return new int[] {levels.size(), n, towns.size(), s.things.size(), s.gone, heard.size(), drifted.size(),
                undone.size(), kept.size(), text.length()}[what];
        }
    }
}
